/-! THE CONSTRUCTORS: Estate -/
/-- the estate at a with its first i lots -/
def est_pre (S : mm_S) (a i : Nat) : Prop :=
  (S.2.1 a).1 = 2 ∧ S.2.2 a 0 = some (a + 1) ∧ S.2.2 a 1 = some (a + 2) ∧ S.2.2 a 2 = some (a + 3) ∧ S.2.2 a 3 = some (a + 5) ∧
  S.2.1 (a + 1) = (10, 6) ∧ S.2.1 (a + 2) = (9, 6) ∧ mm_bk S (a + 3) ∧ mm_bar S (a + 5) ∧ ∀ l, l < i → S.2.2 (a + 1) l = some (a + 7 + 6 * l) ∧ mm_lot S (a + 7 + 6 * l)
theorem est_pre.next {a i n : Nat} {K K9 : Nat → Nat × Nat} {P P9 : Nat → Nat → Option Nat} {m : Nat} (h : est_pre (n, K, P) a i) (hn : n = a + 7 + 6 * i) (hK : ∀ c, c < n → K9 c = K c) (hP : ∀ c, c < n → P9 c = P c) (hl : mm_lot (m, K9, P9) n) : est_pre (m, K9, mm_wp P9 (a + 1) i (some n)) a (i + 1) := by
  obtain ⟨g1, g2, g3, g4, g5, g6, g7, g8, g9, g10⟩ := h
  have hp : ∀ c, c < n → c ≠ a + 1 → mm_wp P9 (a + 1) i (some n) c = P c := fun c c1 c2 => (wp_row c2).trans (hP c c1)
  refine ⟨?_, ?_, ?_, ?_, ?_, ?_, ?_, g8.mono (fun c c1 c2 => ⟨hK c (by omega), hp c (by omega) (by omega)⟩), g9.mono (fun c c1 c2 => ⟨hK c (by omega), hp c (by omega) (by omega)⟩), fun l hli => ?_⟩
  · show (K9 a).1 = 2
    rw [hK a (by omega)]; exact g1
  · show mm_wp _ _ _ _ a 0 = _
    rw [hp a (by omega) (by omega)]; exact g2
  · show mm_wp _ _ _ _ a 1 = _
    rw [hp a (by omega) (by omega)]; exact g3
  · show mm_wp _ _ _ _ a 2 = _
    rw [hp a (by omega) (by omega)]; exact g4
  · show mm_wp _ _ _ _ a 3 = _
    rw [hp a (by omega) (by omega)]; exact g5
  · show K9 (a + 1) = _
    rw [hK _ (by omega)]; exact g6
  · show K9 (a + 2) = _
    rw [hK _ (by omega)]; exact g7
  · by_cases e : l = i
    · subst e
      refine ⟨?_, ?_⟩
      · show mm_wp _ _ _ _ _ _ = _
        rw [wp_s, hn]
      · rw [← hn]
        exact mm_lot.mono (S := (m, K9, P9)) (S' := (m, K9, mm_wp P9 (a + 1) l (some n))) (fun c c1 c2 => ⟨rfl, wp_row (by omega)⟩) hl
    · refine ⟨?_, (g10 l (by omega)).2.mono (fun c c1 c2 => ⟨hK c (by omega), hp c (by omega) (by omega)⟩)⟩
      show mm_wp _ _ _ _ _ _ = _
      rw [wp_ne (Or.inr e), hP _ (by omega)]
      exact (g10 l (by omega)).1

set_option maxRecDepth 100000 in
set_option maxHeartbeats 4000000 in
theorem c_X2_init {a : Nat} {K : Nat → Nat × Nat} {P : Nat → Nat → Option Nat} {I : mm_I} (hk : (K a).1 = 2) : mm_Ct mX2_init 42 347 [.ref a] (a + 1, K, P) I (mm_cn_Q a 43 (a + 1, K, P) (mm_wr (mm_wr I a 7 10) a 8 12) (fun S' => mm_est S' a)) := by
  refine mm_Ct.of okX2_init rfl (Nat.le_of_ble_eq_true rfl) (lv := [(0, .ref a)]) rfl ?_
  have loop : ∀ (t i n : Nat) (K1 : Nat → Nat × Nat) (P1 : Nat → Nat → Option Nat), i + t = 6 → n = a + 7 + 6 * i → est_pre (n, K1, P1) a i → (∀ b, b < a → K1 b = K b ∧ P1 b = P b) → mm_G (mm_XM 42 347 (mm_cn_Q a 43 (a + 1, K, P) (mm_wr (mm_wr I a 7 10) a 8 12) (fun S' => mm_est S' a))) mX2_init 42 347 57 [(1, .int (nI i)), (0, .ref a)] [] (n, K1, P1) (mm_wr (mm_wr I a 7 10) a 8 12) (6 + 6 * i) (101 + 41 * i) := by
    intro t
    induction t with
    | zero =>
      intro i n K1 P1 hit hn hpre hbf
      have hi6 : i = 6 := by omega
      subst hi6
      subst hn
      obtain ⟨e1, e2, e3, e4, e5, e6, e7, e8, e9, e10⟩ := id hpre
      refine mm_iload_n dX2_init_57 rfl rfl ?_
      refine mm_aload_n dX2_init_58 rfl rfl ?_
      refine mm_getR dX2_init_59 fl_X2_11 rfl (by (try dsimp only); (repeat rw [up_ne (by omega)]); first | assumption | (rw [up_s])) (by (try dsimp only); (repeat rw [wp_ne (by omega)]); first | assumption | (rw [wp_s])) ?_
      refine mm_alen (t := 1) dX2_init_62 (by (try dsimp only); (repeat rw [up_ne (by omega)]); first | assumption | (rw [up_s])) (by decide) 6 rfl ?_
      refine mm_icmp_ge 85 dX2_init_63 (by decide) (fun c_63 => ?_) (fun c_63 => absurd (nI_le (a := 6) (by omega) (by omega)) c_63)
      refine mm_vret dX2_init_85 rfl ?_
      exact ⟨rfl, rfl, hbf, hpre, rfl⟩
    | succ t ih =>
      intro i n K1 P1 hit hn hpre hbf
      subst hn
      obtain ⟨e1, e2, e3, e4, e5, e6, e7, e8, e9, e10⟩ := id hpre
      refine mm_iload_n dX2_init_57 rfl rfl ?_
      refine mm_aload_n dX2_init_58 rfl rfl ?_
      refine mm_getR dX2_init_59 fl_X2_11 rfl (by (try dsimp only); (repeat rw [up_ne (by omega)]); first | assumption | (rw [up_s])) (by (try dsimp only); (repeat rw [wp_ne (by omega)]); first | assumption | (rw [wp_s])) ?_
      refine mm_alen (t := 1) dX2_init_62 (by (try dsimp only); (repeat rw [up_ne (by omega)]); first | assumption | (rw [up_s])) (by decide) 6 rfl ?_
      refine mm_icmp_ge 85 dX2_init_63 (by decide) (fun c_63 => absurd c_63 (nI_ge (b := 6) (by omega) (by omega))) (fun c_63 => ?_)
      refine mm_aload_n dX2_init_66 rfl rfl ?_
      refine mm_getR dX2_init_67 fl_X2_11 rfl (by (try dsimp only); (repeat rw [up_ne (by omega)]); first | assumption | (rw [up_s])) (by (try dsimp only); (repeat rw [wp_ne (by omega)]); first | assumption | (rw [wp_s])) ?_
      refine mm_iload_n dX2_init_70 rfl rfl ?_
      refine mm_newT 4 8 rfl dX2_init_71 (by decide) cl_X2_9 ist_X4 ini_X4 (by omega) (by omega) ?_
      refine mm_dup dX2_init_74 rfl ?_
      refine mm_INm (N := mX4_init) (as := []) dX2_init_75 lk_X2_42 rfl okX4_init (by decide) rfl rfl (by first | decide | (simp [Value.category])) (c_X4_init (a := a + 7 + 6 * i) (by rw [up_s])) (by omega) (by omega) (fun v S9 I9 h => ?_)
      obtain ⟨rfl, hn9, hb9, hr9, rfl⟩ := h
      obtain ⟨n9, K9, P9⟩ := S9
      have hn9 : n9 = a + 7 + 6 * i + 6 := hn9
      subst hn9
      have hb9 : ∀ b, b < a + 7 + 6 * i → K9 b = _ ∧ P9 b = _ := hb9
      have hK9 : ∀ c, c < a + 7 + 6 * i → K9 c = K1 c := fun c hc => (hb9 c hc).1.trans (up_ne (by omega))
      have hP9 : ∀ c, c < a + 7 + 6 * i → P9 c = P1 c := fun c hc => (hb9 c hc).2
      have hl9 : (K9 (a + 1)) = (0 + 10, 6) := by rw [hK9 _ (by omega)]; exact e6
      have hm9 : (K9 (a + 7 + 6 * i)).1 = 4 := hr9.1
      refine mm_aastT (t := 0) dX2_init_78 hl9 (Or.inl ⟨rfl, rfl⟩) hm9 (vp_in_nI (n := i) (by omega) (by omega)) ?_
      rw [nI_clamp (by omega)]
      refine mm_iinc 1 dX2_init_79 rfl rfl (Nat.le_of_ble_eq_true rfl) ?_
      rw [nI_1]
      refine mm_goto 57 dX2_init_82 (by decide) ?_
      refine mm_G.cs (cl' := 6 + 6 * (i + 1)) (sl' := 101 + 41 * (i + 1)) (by omega) (by omega) ?_
      exact mm_G.at (ih (i + 1) (a + 7 + 6 * i + 6) K9 _ (by omega) (by omega) (hpre.next rfl hK9 hP9 hr9) (fun b hb => ⟨(hK9 b (by omega)).trans (hbf b hb).1, (wp_row (by omega)).trans ((hP9 b (by omega)).trans (hbf b hb).2)⟩)) (mm_s1 rfl (mm_s1 rfl mm_s0))
  refine mm_aload_n dX2_init_0 rfl rfl ?_
  refine mm_objInit dX2_init_1 li_X2_3 oi_im oi_code (by decide) (by decide) ?_
  refine mm_aload_n dX2_init_4 rfl rfl ?_
  refine mm_bipush 6 dX2_init_5 rfl ?_
  refine mm_newqT (N := 6) 0 RX4 dX2_init_7 (Or.inl ⟨rfl, rfl⟩) cl_X2_9 (by decide) (by decide) (by decide) (by omega) (by omega) ?_
  refine mm_putRT dX2_init_10 fl_X2_11 rfl (Or.inr ⟨_, rfl⟩) rfl rfl rfl (by (try dsimp only); (repeat rw [up_ne (by omega)]); first | assumption | (rw [up_s])) ?_
  refine mm_aload_n dX2_init_13 rfl rfl ?_
  refine mm_bipush 6 dX2_init_14 rfl ?_
  refine mm_newaT (N := 6) dX2_init_16 arr_I (by decide) (by decide) (by decide) (by omega) (by omega) ?_
  refine mm_putRT dX2_init_18 fl_X2_17 rfl (Or.inr ⟨_, rfl⟩) rfl rfl rfl (by (try dsimp only); (repeat rw [up_ne (by omega)]); first | assumption | (rw [up_s])) ?_
  refine mm_aload_n dX2_init_21 rfl rfl ?_
  refine mm_newT 1 2 rfl dX2_init_22 (by decide) cl_X2_21 ist_X1 ini_X1 (by omega) (by omega) ?_
  refine mm_dup dX2_init_25 rfl ?_
  refine mm_INm (N := mX1_init) (as := []) dX2_init_26 lk_X2_23 rfl okX1_init (by decide) rfl rfl (by first | decide | (simp [Value.category])) (c_X1_init (a := a + 3) (by rw [up_s])) (by omega) (by omega) (fun v S9 I9 h => ?_)
  obtain ⟨rfl, hn8, hb8, hr8, rfl⟩ := h
  obtain ⟨n8, K8, P8⟩ := S9
  have hn8 : n8 = a + 3 + 2 := hn8
  subst hn8
  have hb8 : ∀ b, b < a + 3 → K8 b = _ ∧ P8 b = _ := hb8
  have a8 : (K8 a).1 = 2 := by rw [(hb8 a (by omega)).1]; show (va_up (α := Nat × Nat) _ _ _ _).1 = _; rw [up_ne (by omega), up_ne (by omega), up_ne (by omega)]; exact hk
  refine mm_putRT dX2_init_29 fl_X2_24 rfl (Or.inl ⟨_, rfl⟩) rfl rfl rfl (by (try dsimp only); (repeat rw [up_ne (by omega)]); first | assumption | (rw [up_s])) ?_
  refine mm_aload_n dX2_init_32 rfl rfl ?_
  refine mm_newT 0 3 rfl dX2_init_33 (by decide) cl_X2_28 ist_X0 ini_X0 (by omega) (by omega) ?_
  refine mm_dup dX2_init_36 rfl ?_
  refine mm_INm (N := mX0_init) (as := []) dX2_init_37 lk_X2_30 rfl okX0_init (by decide) rfl rfl (by first | decide | (simp [Value.category])) (c_X0_init (a := a + 5) (by rw [up_s])) (by omega) (by omega) (fun v S9 I9 h => ?_)
  obtain ⟨rfl, hn7, hb7, hr7, rfl⟩ := h
  obtain ⟨n7, K7, P7⟩ := S9
  have hn7 : n7 = a + 5 + 2 := hn7
  subst hn7
  have hb7 : ∀ b, b < a + 5 → K7 b = _ ∧ P7 b = _ := hb7
  have a7 : (K7 a).1 = 2 := by rw [(hb7 a (by omega)).1]; show (va_up (α := Nat × Nat) _ _ _ _).1 = _; rw [up_ne (by omega)]; exact a8
  refine mm_putRT dX2_init_40 fl_X2_31 rfl (Or.inl ⟨_, rfl⟩) rfl rfl rfl (by (try dsimp only); (repeat rw [up_ne (by omega)]); first | assumption | (rw [up_s])) ?_
  refine mm_aload_n dX2_init_43 rfl rfl ?_
  refine mm_bipush 10 dX2_init_44 rfl ?_
  refine mm_putI dX2_init_46 fl_X2_35 rfl rfl (by (try dsimp only); (repeat rw [up_ne (by omega)]); first | assumption | (rw [up_s])) ?_
  refine mm_aload_n dX2_init_49 rfl rfl ?_
  refine mm_bipush 12 dX2_init_50 rfl ?_
  refine mm_putI dX2_init_52 fl_X2_39 rfl rfl (by (try dsimp only); (repeat rw [up_ne (by omega)]); first | assumption | (rw [up_s])) ?_
  refine mm_iconst 0 dX2_init_55 rfl ?_
  refine mm_istore_n dX2_init_56 rfl (Nat.le_of_ble_eq_true rfl) ?_
  have hK7 : ∀ c, c < a + 5 → K7 c = K8 c := fun c hc => (hb7 c hc).1.trans (up_ne (by omega))
  have hP7 : ∀ c, c < a + 5 → P7 c = mm_wp P8 a 2 (some (a + 3)) c := fun c hc => (hb7 c hc).2
  have hK8 : ∀ c, c < a + 3 → K8 c = va_up (va_up K (a + 1) (10, 6)) (a + 1 + 1) (9, 6) c := fun c hc => (hb8 c hc).1.trans (up_ne (by omega))
  have hP8 : ∀ c, c < a + 3 → P8 c = mm_wp (mm_wp P a 0 (some (a + 1))) a 1 (some (a + 1 + 1)) c := fun c hc => (hb8 c hc).2
  have hpre : est_pre (a + 5 + 2, K7, mm_wp P7 a 3 (some (a + 5))) a 0 := by
    refine ⟨a7, ?_, ?_, ?_, ?_, ?_, ?_, hr8.mono (fun c c1 c2 => ⟨hK7 c (by omega), ?_⟩), mm_bar.mono (S := (a + 5 + 2, K7, P7)) (S' := (a + 5 + 2, K7, mm_wp P7 a 3 (some (a + 5)))) (fun c c1 c2 => ⟨rfl, wp_row (by omega)⟩) hr7, fun l hl => absurd hl (Nat.not_lt_zero l)⟩
    · show mm_wp _ _ _ _ _ _ = _
      rw [wp_ne (Or.inr (by decide)), hP7 a (by omega), wp_ne (Or.inr (by decide)), hP8 a (by omega), wp_ne (Or.inr (by decide)), wp_s]
    · show mm_wp _ _ _ _ _ _ = _
      rw [wp_ne (Or.inr (by decide)), hP7 a (by omega), wp_ne (Or.inr (by decide)), hP8 a (by omega), wp_s]
    · show mm_wp _ _ _ _ _ _ = _
      rw [wp_ne (Or.inr (by decide)), hP7 a (by omega), wp_s]
    · show mm_wp _ _ _ _ _ _ = _
      rw [wp_s]
    · show K7 (a + 1) = _
      rw [hK7 _ (by omega), hK8 _ (by omega), up_ne (by omega), up_s]
    · show K7 (a + 2) = _
      rw [hK7 _ (by omega), hK8 _ (by omega), up_s]
    · show mm_wp _ _ _ _ c = P8 c
      rw [wp_row (by omega), hP7 c (by omega), wp_row (by omega)]
  refine mm_G.at (loop 6 0 _ _ _ (by omega) (by omega) hpre (fun b hb => ⟨?_, ?_⟩)) (mm_s1 rfl (mm_s1 rfl mm_s0))
  · rw [hK7 b (by omega), hK8 b (by omega), up_ne (by omega), up_ne (by omega)]
  · rw [wp_row (by omega), hP7 b (by omega), wp_row (by omega), hP8 b (by omega), wp_row (by omega), wp_row (by omega)]
