/-! THE CONSTRUCTORS: History, Trial, WineFutures, the reference -/
def his_pre (S : mm_S) (a i : Nat) : Prop := (S.2.1 a).1 = 3 ∧ S.2.2 a 0 = some (a + 1) ∧ S.2.1 (a + 1) = (11, 5) ∧ ∀ l, l < i → S.2.2 (a + 1) l = some (a + 2 + 43 * l) ∧ mm_est S (a + 2 + 43 * l)
theorem his_pre.next {a i n : Nat} {K K9 : Nat → Nat × Nat} {P P9 : Nat → Nat → Option Nat} {m : Nat} (h : his_pre (n, K, P) a i) (hn : n = a + 2 + 43 * i) (hK : ∀ c, c < n → K9 c = K c) (hP : ∀ c, c < n → P9 c = P c) (hl : mm_est (m, K9, P9) n) : his_pre (m, K9, mm_wp P9 (a + 1) i (some n)) a (i + 1) := by
  obtain ⟨g1, g2, g6, g10⟩ := h
  have hp : ∀ c, c < n → c ≠ a + 1 → mm_wp P9 (a + 1) i (some n) c = P c := fun c c1 c2 => (wp_row c2).trans (hP c c1)
  refine ⟨?_, ?_, ?_, fun l hli => ?_⟩
  · show (K9 a).1 = 3
    rw [hK a (by omega)]; exact g1
  · show mm_wp _ _ _ _ a 0 = _
    rw [hp a (by omega) (by omega)]; exact g2
  · show K9 (a + 1) = _
    rw [hK _ (by omega)]; exact g6
  · by_cases e : l = i
    · subst e
      refine ⟨?_, ?_⟩
      · show mm_wp _ _ _ _ _ _ = _
        rw [wp_s, hn]
      · rw [← hn]
        exact mm_est.mono (S := (m, K9, P9)) (S' := (m, K9, mm_wp P9 (a + 1) l (some n))) (fun c c1 c2 => ⟨rfl, wp_row (by omega)⟩) hl
    · refine ⟨?_, (g10 l (by omega)).2.mono (fun c c1 c2 => ⟨hK c (by omega), hp c (by omega) (by omega)⟩)⟩
      show mm_wp _ _ _ _ _ _ = _
      rw [wp_ne (Or.inr e), hP _ (by omega)]
      exact (g10 l (by omega)).1

set_option maxRecDepth 100000 in
set_option maxHeartbeats 4000000 in
theorem c_X3_init {a : Nat} {K : Nat → Nat × Nat} {P : Nat → Nat → Option Nat} {I : mm_I} (hk : (K a).1 = 3) : mm_Ct mX3_init 216 1800 [.ref a] (a + 1, K, P) I (fun v S' I' => v = none ∧ S'.1 = a + 217 ∧ s_bef a (a + 1, K, P) S' ∧ mm_hist S' a ∧ ∀ b, b < a + 2 ∨ a + 217 ≤ b → I' b = I b) := by
  refine mm_Ct.of okX3_init rfl (Nat.le_of_ble_eq_true rfl) (lv := [(0, .ref a)]) rfl ?_
  have loop : ∀ (t i n : Nat) (K1 : Nat → Nat × Nat) (P1 : Nat → Nat → Option Nat) (I1 : mm_I), i + t = 5 → n = a + 2 + 43 * i → his_pre (n, K1, P1) a i → (∀ b, b < a → K1 b = K b ∧ P1 b = P b) → (∀ b, b < a + 2 ∨ n ≤ b → I1 b = I b) → mm_G (mm_XM 216 1800 (fun v S' I' => v = none ∧ S'.1 = a + 217 ∧ s_bef a (a + 1, K, P) S' ∧ mm_hist S' a ∧ ∀ b, b < a + 2 ∨ a + 217 ≤ b → I' b = I b)) mX3_init 216 1800 14 [(1, .int (nI i)), (0, .ref a)] [] (n, K1, P1) I1 (1 + 43 * i) (5 + 359 * i) := by
    intro t
    induction t with
    | zero =>
      intro i n K1 P1 I1 hit hn hpre hbf hI
      have hi6 : i = 5 := by omega
      subst hi6
      subst hn
      obtain ⟨e1, e2, e6, e10⟩ := id hpre
      refine mm_iload_n dX3_init_14 rfl rfl ?_
      refine mm_aload_n dX3_init_15 rfl rfl ?_
      refine mm_getR dX3_init_16 fl_X3_11 rfl (by (try dsimp only); (repeat rw [up_ne (by omega)]); first | assumption | (rw [up_s])) (by (try dsimp only); (repeat rw [wp_ne (by omega)]); first | assumption | (rw [wp_s])) ?_
      refine mm_alen (t := 2) dX3_init_19 (by (try dsimp only); (repeat rw [up_ne (by omega)]); first | assumption | (rw [up_s])) (by decide) 5 rfl ?_
      refine mm_icmp_ge 42 dX3_init_20 (by decide) (fun c_20 => ?_) (fun c_20 => absurd (nI_le (a := 5) (by omega) (by omega)) c_20)
      refine mm_vret dX3_init_42 rfl ?_
      exact ⟨rfl, rfl, hbf, hpre, fun b hb => hI b (by omega)⟩
    | succ t ih =>
      intro i n K1 P1 I1 hit hn hpre hbf hI
      subst hn
      obtain ⟨e1, e2, e6, e10⟩ := id hpre
      refine mm_iload_n dX3_init_14 rfl rfl ?_
      refine mm_aload_n dX3_init_15 rfl rfl ?_
      refine mm_getR dX3_init_16 fl_X3_11 rfl (by (try dsimp only); (repeat rw [up_ne (by omega)]); first | assumption | (rw [up_s])) (by (try dsimp only); (repeat rw [wp_ne (by omega)]); first | assumption | (rw [wp_s])) ?_
      refine mm_alen (t := 2) dX3_init_19 (by (try dsimp only); (repeat rw [up_ne (by omega)]); first | assumption | (rw [up_s])) (by decide) 5 rfl ?_
      refine mm_icmp_ge 42 dX3_init_20 (by decide) (fun c_20 => absurd c_20 (nI_ge (b := 5) (by omega) (by omega))) (fun c_20 => ?_)
      refine mm_aload_n dX3_init_23 rfl rfl ?_
      refine mm_getR dX3_init_24 fl_X3_11 rfl (by (try dsimp only); (repeat rw [up_ne (by omega)]); first | assumption | (rw [up_s])) (by (try dsimp only); (repeat rw [wp_ne (by omega)]); first | assumption | (rw [wp_s])) ?_
      refine mm_iload_n dX3_init_27 rfl rfl ?_
      refine mm_newT 2 12 rfl dX3_init_28 (by decide) cl_X3_9 ist_X2 ini_X2 (by omega) (by omega) ?_
      refine mm_dup dX3_init_31 rfl ?_
      refine mm_Im (N := mX2_init) (as := []) dX3_init_32 lk_X3_17 rfl okX2_init (by decide) rfl rfl (by first | decide | (simp [Value.category])) (c_X2_init (a := a + 2 + 43 * i) (by rw [up_s])) (by omega) (by omega) (fun v S9 I9 h => ?_)
      obtain ⟨rfl, hn9, hb9, hr9, hi9⟩ := h
      obtain ⟨n9, K9, P9⟩ := S9
      have hn9 : n9 = a + 2 + 43 * i + 43 := hn9
      subst hn9
      have hb9 : ∀ b, b < a + 2 + 43 * i → K9 b = _ ∧ P9 b = _ := hb9
      have hK9 : ∀ c, c < a + 2 + 43 * i → K9 c = K1 c := fun c hc => (hb9 c hc).1.trans (up_ne (by omega))
      have hP9 : ∀ c, c < a + 2 + 43 * i → P9 c = P1 c := fun c hc => (hb9 c hc).2
      have hl9 : (K9 (a + 1)) = (1 + 10, 5) := by rw [hK9 _ (by omega)]; exact e6
      have hm9 : (K9 (a + 2 + 43 * i)).1 = 2 := hr9.1
      refine mm_aastT (t := 1) dX3_init_35 hl9 (Or.inr ⟨rfl, rfl⟩) hm9 (vp_in_nI (n := i) (by omega) (by omega)) ?_
      rw [nI_clamp (by omega)]
      refine mm_iinc 1 dX3_init_36 rfl rfl (Nat.le_of_ble_eq_true rfl) ?_
      rw [nI_1]
      refine mm_goto 14 dX3_init_39 (by decide) ?_
      refine mm_G.cs (cl' := 1 + 43 * (i + 1)) (sl' := 5 + 359 * (i + 1)) (by omega) (by omega) ?_
      exact mm_G.at (ih (i + 1) (a + 2 + 43 * i + 43) K9 _ I9 (by omega) (by omega) (hpre.next rfl hK9 hP9 hr9) (fun b hb => ⟨(hK9 b (by omega)).trans (hbf b hb).1, (wp_row (by omega)).trans ((hP9 b (by omega)).trans (hbf b hb).2)⟩) (fun b hb => by rw [hi9, mm_wr_row (by omega), mm_wr_row (by omega)]; exact hI b (by omega))) (mm_s1 rfl (mm_s1 rfl mm_s0))
  refine mm_aload_n dX3_init_0 rfl rfl ?_
  refine mm_objInit dX3_init_1 li_X3_3 oi_im oi_code (by decide) (by decide) ?_
  refine mm_aload_n dX3_init_4 rfl rfl ?_
  refine mm_iconst 5 dX3_init_5 rfl ?_
  refine mm_newqT (N := 5) 1 RX2 dX3_init_6 (Or.inr ⟨rfl, rfl⟩) cl_X3_9 (by decide) (by decide) (by decide) (by omega) (by omega) ?_
  refine mm_putRT dX3_init_9 fl_X3_11 rfl (Or.inr ⟨_, rfl⟩) rfl rfl rfl (by (try dsimp only); (repeat rw [up_ne (by omega)]); first | assumption | (rw [up_s])) ?_
  refine mm_iconst 0 dX3_init_12 rfl ?_
  refine mm_istore_n dX3_init_13 rfl (Nat.le_of_ble_eq_true rfl) ?_
  have hpre : his_pre (a + 1 + 1, va_up K (a + 1) (1 + 10, 5), mm_wp P a 0 (some (a + 1))) a 0 := by
    refine ⟨?_, wp_s, up_s, fun l hl => absurd hl (Nat.not_lt_zero l)⟩
    show (va_up (α := Nat × Nat) _ _ _ _).1 = _
    rw [up_ne (by omega)]; exact hk
  exact mm_G.at (loop 5 0 _ _ _ I (by omega) (by omega) hpre (fun b hb => ⟨up_ne (by omega), wp_row (by omega)⟩) (fun b hb => rfl)) (mm_s1 rfl (mm_s1 rfl mm_s0))
set_option maxRecDepth 100000 in
set_option maxHeartbeats 4000000 in
theorem c_X6_init {a : Nat} {K : Nat → Nat × Nat} {P : Nat → Nat → Option Nat} {I : mm_I} (hk : (K a).1 = 6) : mm_Ct mX6_init 43 359 [.ref a] (a + 1, K, P) I (mm_cn_Q a 44 (a + 1, K, P) (mm_wr (mm_wr I (a + 1) 7 10) (a + 1) 8 12) (fun S' => mm_tri S' a)) := by
  refine mm_Ct.of okX6_init rfl (Nat.le_of_ble_eq_true rfl) (lv := [(0, .ref a)]) rfl ?_
  refine mm_aload_n dX6_init_0 rfl rfl ?_
  refine mm_objInit dX6_init_1 li_X6_3 oi_im oi_code (by decide) (by decide) ?_
  refine mm_aload_n dX6_init_4 rfl rfl ?_
  refine mm_newT 2 12 rfl dX6_init_5 (by decide) cl_X6_9 ist_X2 ini_X2 (by omega) (by omega) ?_
  refine mm_dup dX6_init_8 rfl ?_
  refine mm_Im (N := mX2_init) (as := []) dX6_init_9 lk_X6_11 rfl okX2_init (by decide) rfl rfl (by first | decide | (simp [Value.category])) (c_X2_init (a := a + 1) (by rw [up_s])) (by omega) (by omega) (fun v S9 I9 h => ?_)
  obtain ⟨rfl, hn9, hb9, hr9, rfl⟩ := h
  obtain ⟨n9, K9, P9⟩ := S9
  have hn9 : n9 = a + 1 + 43 := hn9
  subst hn9
  have hb9 : ∀ b, b < a + 1 → K9 b = _ ∧ P9 b = _ := hb9
  have a9 : (K9 a).1 = 6 := by rw [(hb9 a (by omega)).1]; show (va_up (α := Nat × Nat) _ _ _ _).1 = _; rw [up_ne (by omega)]; exact hk
  refine mm_putRT dX6_init_12 fl_X6_12 rfl (Or.inl ⟨_, rfl⟩) rfl rfl rfl (by (try dsimp only); (repeat rw [up_ne (by omega)]); first | assumption | (rw [up_s])) ?_
  refine mm_vret dX6_init_15 rfl ?_
  refine ⟨rfl, rfl, fun b hb => ⟨?_, ?_⟩, ⟨a9, wp_s, mm_est.mono (S := (a + 1 + 43, K9, P9)) (S' := (a + 1 + 43, K9, mm_wp P9 a 0 (some (a + 1)))) (fun c c1 c2 => ⟨rfl, wp_row (by omega)⟩) hr9⟩, rfl⟩
  · exact (hb9 b (by omega)).1.trans (up_ne (by omega))
  · exact (wp_row (by omega)).trans (hb9 b (by omega)).2
set_option maxRecDepth 100000 in
set_option maxHeartbeats 4000000 in
theorem c_X7_init {w : Nat} {K : Nat → Nat × Nat} {P : Nat → Nat → Option Nat} {I : mm_I} (hk : (K w).1 = 7) : mm_Ct mX7_init 307 2595 [.ref w] (w + 1, K, P) I (fun v S' I' => v = none ∧ S'.1 = w + 308 ∧ s_bef w (w + 1, K, P) S' ∧ mm_wine S' w ∧ (∀ b, b < w + 1 ∨ w + 308 ≤ b ∨ b = w + 44 ∨ (w + 261 ≤ b ∧ b < w + 264) → I' b = I b) ∧ ∀ b, w + 1 ≤ b → b < w + 44 → I' b = (mm_wr (mm_wr I (w + 1) 7 10) (w + 1) 8 12) b) := by
  refine mm_Ct.of okX7_init rfl (Nat.le_of_ble_eq_true rfl) (lv := [(0, .ref w)]) rfl ?_
  refine mm_aload_n dX7_init_0 rfl rfl ?_
  refine mm_objInit dX7_init_1 li_X7_1 oi_im oi_code (by decide) (by decide) ?_
  refine mm_aload_n dX7_init_4 rfl rfl ?_
  refine mm_newT 2 12 rfl dX7_init_5 (by decide) cl_X7_7 ist_X2 ini_X2 (by omega) (by omega) ?_
  refine mm_dup dX7_init_8 rfl ?_
  refine mm_Im (N := mX2_init) (as := []) dX7_init_9 lk_X7_9 rfl okX2_init (by decide) rfl rfl (by first | decide | (simp [Value.category])) (c_X2_init (a := w + 1) (by rw [up_s])) (by omega) (by omega) (fun v S9 I9 h => ?_)
  obtain ⟨rfl, hn2, hb2, hr2, rfl⟩ := h
  obtain ⟨n2, K2, P2⟩ := S9
  have hn2 : n2 = w + 1 + 43 := hn2
  subst hn2
  have hb2 : ∀ b, b < w + 1 → K2 b = _ ∧ P2 b = _ := hb2
  have a2 : (K2 w).1 = 7 := by rw [(hb2 w (by omega)).1]; show (va_up (α := Nat × Nat) _ _ _ _).1 = _; rw [up_ne (by omega)]; exact hk
  refine mm_putRT dX7_init_12 fl_X7_10 rfl (Or.inl ⟨_, rfl⟩) rfl rfl rfl (by (try dsimp only); (repeat rw [up_ne (by omega)]); first | assumption | (rw [up_s])) ?_
  refine mm_aload_n dX7_init_15 rfl rfl ?_
  refine mm_newT 3 3 rfl dX7_init_16 (by decide) cl_X7_16 ist_X3 ini_X3 (by omega) (by omega) ?_
  refine mm_dup dX7_init_19 rfl ?_
  refine mm_Im (N := mX3_init) (as := []) dX7_init_20 lk_X7_18 rfl okX3_init (by decide) rfl rfl (by first | decide | (simp [Value.category])) (c_X3_init (a := w + 44) (by rw [up_s])) (by omega) (by omega) (fun v S9 I9 h => ?_)
  obtain ⟨rfl, hn3, hb3, hr3, hi3⟩ := h
  obtain ⟨n3, K3, P3⟩ := S9
  have hn3 : n3 = w + 44 + 217 := hn3
  subst hn3
  have hb3 : ∀ b, b < w + 44 → K3 b = _ ∧ P3 b = _ := hb3
  have a3 : (K3 w).1 = 7 := by rw [(hb3 w (by omega)).1]; show (va_up (α := Nat × Nat) _ _ _ _).1 = _; rw [up_ne (by omega)]; exact a2
  refine mm_putRT dX7_init_23 fl_X7_19 rfl (Or.inl ⟨_, rfl⟩) rfl rfl rfl (by (try dsimp only); (repeat rw [up_ne (by omega)]); first | assumption | (rw [up_s])) ?_
  refine mm_aload_n dX7_init_26 rfl rfl ?_
  refine mm_newT 5 5 rfl dX7_init_27 (by decide) cl_X7_23 ist_X5 ini_X5 (by omega) (by omega) ?_
  refine mm_dup dX7_init_30 rfl ?_
  refine mm_INm (N := mX5_init) (as := []) dX7_init_31 lk_X7_25 rfl okX5_init (by decide) rfl rfl (by first | decide | (simp [Value.category])) (c_X5_init (a := w + 261) (by rw [up_s])) (by omega) (by omega) (fun v S9 I9 h => ?_)
  obtain ⟨rfl, hn5, hb5, hr5, rfl⟩ := h
  obtain ⟨n5, K5, P5⟩ := S9
  have hn5 : n5 = w + 261 + 3 := hn5
  subst hn5
  have hb5 : ∀ b, b < w + 261 → K5 b = _ ∧ P5 b = _ := hb5
  have a5 : (K5 w).1 = 7 := by rw [(hb5 w (by omega)).1]; show (va_up (α := Nat × Nat) _ _ _ _).1 = _; rw [up_ne (by omega)]; exact a3
  refine mm_putRT dX7_init_34 fl_X7_26 rfl (Or.inl ⟨_, rfl⟩) rfl rfl rfl (by (try dsimp only); (repeat rw [up_ne (by omega)]); first | assumption | (rw [up_s])) ?_
  refine mm_aload_n dX7_init_37 rfl rfl ?_
  refine mm_newT 6 5 rfl dX7_init_38 (by decide) cl_X7_30 ist_X6 ini_X6 (by omega) (by omega) ?_
  refine mm_dup dX7_init_41 rfl ?_
  refine mm_INm (N := mX6_init) (as := []) dX7_init_42 lk_X7_32 rfl okX6_init (by decide) rfl rfl (by first | decide | (simp [Value.category])) (c_X6_init (a := w + 264) (by rw [up_s])) (by omega) (by omega) (fun v S9 I9 h => ?_)
  obtain ⟨rfl, hn6, hb6, hr6, rfl⟩ := h
  obtain ⟨n6, K6, P6⟩ := S9
  have hn6 : n6 = w + 264 + 44 := hn6
  subst hn6
  have hb6 : ∀ b, b < w + 264 → K6 b = _ ∧ P6 b = _ := hb6
  have a6 : (K6 w).1 = 7 := by rw [(hb6 w (by omega)).1]; show (va_up (α := Nat × Nat) _ _ _ _).1 = _; rw [up_ne (by omega)]; exact a5
  refine mm_putRT dX7_init_45 fl_X7_33 rfl (Or.inl ⟨_, rfl⟩) rfl rfl rfl (by (try dsimp only); (repeat rw [up_ne (by omega)]); first | assumption | (rw [up_s])) ?_
  refine mm_vret dX7_init_48 rfl ?_
  have hK6 : ∀ c, c < w + 264 → K6 c = K5 c := fun c hc => (hb6 c hc).1.trans (up_ne (by omega))
  have hP6 : ∀ c, c < w + 264 → P6 c = mm_wp P5 w 2 (some (w + 261)) c := fun c hc => (hb6 c hc).2
  have hK5 : ∀ c, c < w + 261 → K5 c = K3 c := fun c hc => (hb5 c hc).1.trans (up_ne (by omega))
  have hP5 : ∀ c, c < w + 261 → P5 c = mm_wp P3 w 1 (some (w + 44)) c := fun c hc => (hb5 c hc).2
  have hK3 : ∀ c, c < w + 44 → K3 c = K2 c := fun c hc => (hb3 c hc).1.trans (up_ne (by omega))
  have hP3 : ∀ c, c < w + 44 → P3 c = mm_wp P2 w 0 (some (w + 1)) c := fun c hc => (hb3 c hc).2
  have hK2 : ∀ c, c < w + 1 → K2 c = va_up K (w + 1) (2, 0) c := fun c hc => (hb2 c hc).1
  have hP2 : ∀ c, c < w + 1 → P2 c = P c := fun c hc => (hb2 c hc).2
  have hfin : ∀ c, c ≠ w → mm_wp P6 w 3 (some (w + 264)) c = P6 c := fun c hc => wp_row hc
  refine ⟨rfl, rfl, fun b hb => ⟨?_, ?_⟩, ⟨a6, ?_, ?_, ?_, wp_s, ?_, ?_, ?_, ?_⟩, fun b hb => ?_, fun b h1 h2 => ?_⟩
  · show K6 b = K b
    rw [hK6 b (by omega), hK5 b (by omega), hK3 b (by omega), hK2 b (by omega), up_ne (by omega)]
  · show mm_wp _ _ _ _ b = P b
    rw [hfin b (by omega), hP6 b (by omega), wp_row (by omega), hP5 b (by omega), wp_row (by omega), hP3 b (by omega), wp_row (by omega), hP2 b (by omega)]
  · show mm_wp _ _ _ _ _ _ = _
    rw [wp_ne (Or.inr (by decide)), hP6 w (by omega), wp_ne (Or.inr (by decide)), hP5 w (by omega), wp_ne (Or.inr (by decide)), hP3 w (by omega), wp_s]
  · show mm_wp _ _ _ _ _ _ = _
    rw [wp_ne (Or.inr (by decide)), hP6 w (by omega), wp_ne (Or.inr (by decide)), hP5 w (by omega), wp_s]
  · show mm_wp _ _ _ _ _ _ = _
    rw [wp_ne (Or.inr (by decide)), hP6 w (by omega), wp_s]
  · exact hr2.mono (fun c c1 c2 => ⟨by show K6 c = K2 c; rw [hK6 c (by omega), hK5 c (by omega), hK3 c (by omega)], by show mm_wp _ _ _ _ c = P2 c; rw [hfin c (by omega), hP6 c (by omega), wp_row (by omega), hP5 c (by omega), wp_row (by omega), hP3 c (by omega), wp_row (by omega)]⟩)
  · exact hr3.mono (fun c c1 c2 => ⟨by show K6 c = K3 c; rw [hK6 c (by omega), hK5 c (by omega)], by show mm_wp _ _ _ _ c = P3 c; rw [hfin c (by omega), hP6 c (by omega), wp_row (by omega), hP5 c (by omega), wp_row (by omega)]⟩)
  · exact hr5.mono (fun c c1 c2 => ⟨by show K6 c = K5 c; rw [hK6 c (by omega)], by show mm_wp _ _ _ _ c = P5 c; rw [hfin c (by omega), hP6 c (by omega), wp_row (by omega)]⟩)
  · exact mm_tri.mono (S := (w + 264 + 44, K6, P6)) (S' := (w + 264 + 44, K6, mm_wp P6 w 3 (some (w + 264)))) (fun c c1 c2 => ⟨rfl, hfin c (by omega)⟩) hr6
  · rw [mm_wr_row (by omega), mm_wr_row (by omega), hi3 b (by omega), mm_wr_row (by omega), mm_wr_row (by omega)]
  · rw [mm_wr_row (by omega), mm_wr_row (by omega), hi3 b (by omega)]
set_option maxRecDepth 100000 in
set_option maxHeartbeats 4000000 in
theorem c_X8_init {m : Nat} {K : Nat → Nat × Nat} {P : Nat → Nat → Option Nat} {I : mm_I} (hk : (K m).1 = 8) : mm_Ct mX8_init 6 1972 [.ref m] (m + 1, K, P) I (mm_cn_Q m 7 (m + 1, K, P) (mm_wr (mm_wr I (m + 1) 7 10) (m + 1) 8 12) (fun S' => mm_ref S' m)) := by
  refine mm_Ct.of okX8_init rfl (Nat.le_of_ble_eq_true rfl) (lv := [(0, .ref m)]) rfl ?_
  refine mm_aload_n dX8_init_0 rfl rfl ?_
  refine mm_objInit dX8_init_1 li_X8_1 oi_im oi_code (by decide) (by decide) ?_
  refine mm_aload_n dX8_init_4 rfl rfl ?_
  refine mm_sipush 316 dX8_init_5 rfl ?_
  refine mm_newaT (N := 316) dX8_init_8 arr_I (by decide) (by decide) (by decide) (by omega) (by omega) ?_
  refine mm_putRT dX8_init_10 fl_X8_7 rfl (Or.inr ⟨_, rfl⟩) rfl rfl rfl (by (try dsimp only); (repeat rw [up_ne (by omega)]); first | assumption | (rw [up_s])) ?_
  refine mm_aload_n dX8_init_13 rfl rfl ?_
  refine mm_sipush 1264 dX8_init_14 rfl ?_
  refine mm_newaT (N := 1264) dX8_init_17 arr_I (by decide) (by decide) (by decide) (by omega) (by omega) ?_
  refine mm_putRT dX8_init_19 fl_X8_13 rfl (Or.inr ⟨_, rfl⟩) rfl rfl rfl (by (try dsimp only); (repeat rw [up_ne (by omega)]); first | assumption | (rw [up_s])) ?_
  refine mm_aload_n dX8_init_22 rfl rfl ?_
  refine mm_sipush 316 dX8_init_23 rfl ?_
  refine mm_newaT (N := 316) dX8_init_26 arr_I (by decide) (by decide) (by decide) (by omega) (by omega) ?_
  refine mm_putRT dX8_init_28 fl_X8_16 rfl (Or.inr ⟨_, rfl⟩) rfl rfl rfl (by (try dsimp only); (repeat rw [up_ne (by omega)]); first | assumption | (rw [up_s])) ?_
  refine mm_aload_n dX8_init_31 rfl rfl ?_
  refine mm_bipush 60 dX8_init_32 rfl ?_
  refine mm_newaT (N := 60) dX8_init_34 arr_I (by decide) (by decide) (by decide) (by omega) (by omega) ?_
  refine mm_putRT dX8_init_36 fl_X8_19 rfl (Or.inr ⟨_, rfl⟩) rfl rfl rfl (by (try dsimp only); (repeat rw [up_ne (by omega)]); first | assumption | (rw [up_s])) ?_
  refine mm_aload_n dX8_init_39 rfl rfl ?_
  refine mm_bipush 12 dX8_init_40 rfl ?_
  refine mm_newaT (N := 12) dX8_init_42 arr_I (by decide) (by decide) (by decide) (by omega) (by omega) ?_
  refine mm_putRT dX8_init_44 fl_X8_22 rfl (Or.inr ⟨_, rfl⟩) rfl rfl rfl (by (try dsimp only); (repeat rw [up_ne (by omega)]); first | assumption | (rw [up_s])) ?_
  refine mm_aload_n dX8_init_47 rfl rfl ?_
  refine mm_iconst 4 dX8_init_48 rfl ?_
  refine mm_newaT (N := 4) dX8_init_49 arr_I (by decide) (by decide) (by decide) (by omega) (by omega) ?_
  refine mm_putRT dX8_init_51 fl_X8_25 rfl (Or.inr ⟨_, rfl⟩) rfl rfl rfl (by (try dsimp only); (repeat rw [up_ne (by omega)]); first | assumption | (rw [up_s])) ?_
  refine mm_aload_n dX8_init_54 rfl rfl ?_
  refine mm_getR dX8_init_55 fl_X8_7 rfl (by (try dsimp only); (repeat rw [up_ne (by omega)]); first | assumption | (rw [up_s])) (by (try dsimp only); (repeat rw [wp_ne (by omega)]); first | assumption | (rw [wp_s])) ?_
  refine mm_bipush 7 dX8_init_58 rfl ?_
  refine mm_bipush 10 dX8_init_60 rfl ?_
  refine mm_iast dX8_init_62 (by (try dsimp only); (repeat rw [up_ne (by omega)]); first | assumption | (rw [up_s])) (vp_in_nI (n := 7) (by decide) (by decide)) ?_
  refine mm_aload_n dX8_init_63 rfl rfl ?_
  refine mm_getR dX8_init_64 fl_X8_7 rfl (by (try dsimp only); (repeat rw [up_ne (by omega)]); first | assumption | (rw [up_s])) (by (try dsimp only); (repeat rw [wp_ne (by omega)]); first | assumption | (rw [wp_s])) ?_
  refine mm_bipush 8 dX8_init_67 rfl ?_
  refine mm_bipush 12 dX8_init_69 rfl ?_
  refine mm_iast dX8_init_71 (by (try dsimp only); (repeat rw [up_ne (by omega)]); first | assumption | (rw [up_s])) (vp_in_nI (n := 8) (by decide) (by decide)) ?_
  refine mm_vret dX8_init_72 rfl ?_
  refine ⟨rfl, rfl, fun b hb => ⟨?_, ?_⟩, ⟨?_, (wp_ne (Or.inr (by decide))).trans ((wp_ne (Or.inr (by decide))).trans ((wp_ne (Or.inr (by decide))).trans ((wp_ne (Or.inr (by decide))).trans ((wp_ne (Or.inr (by decide))).trans (wp_s))))), (wp_ne (Or.inr (by decide))).trans ((wp_ne (Or.inr (by decide))).trans ((wp_ne (Or.inr (by decide))).trans ((wp_ne (Or.inr (by decide))).trans (wp_s)))), (wp_ne (Or.inr (by decide))).trans ((wp_ne (Or.inr (by decide))).trans ((wp_ne (Or.inr (by decide))).trans (wp_s))), (wp_ne (Or.inr (by decide))).trans ((wp_ne (Or.inr (by decide))).trans (wp_s)), (wp_ne (Or.inr (by decide))).trans (wp_s), wp_s, (up_ne (by omega)).trans ((up_ne (by omega)).trans ((up_ne (by omega)).trans ((up_ne (by omega)).trans ((up_ne (by omega)).trans (up_s))))), (up_ne (by omega)).trans ((up_ne (by omega)).trans ((up_ne (by omega)).trans ((up_ne (by omega)).trans (up_s)))), (up_ne (by omega)).trans ((up_ne (by omega)).trans ((up_ne (by omega)).trans (up_s))), (up_ne (by omega)).trans ((up_ne (by omega)).trans (up_s)), (up_ne (by omega)).trans (up_s), up_s⟩, rfl⟩
  · show va_up (α := Nat × Nat) _ _ _ _ = K b
    rw [up_ne (by omega), up_ne (by omega), up_ne (by omega), up_ne (by omega), up_ne (by omega), up_ne (by omega)]
  · show mm_wp _ _ _ _ _ = P b
    rw [wp_row (by omega), wp_row (by omega), wp_row (by omega), wp_row (by omega), wp_row (by omega), wp_row (by omega)]
  · show (va_up (α := Nat × Nat) _ _ _ _).1 = _
    rw [up_ne (by omega), up_ne (by omega), up_ne (by omega), up_ne (by omega), up_ne (by omega), up_ne (by omega)]; exact hk
