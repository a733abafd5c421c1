/-! THE CONSTRUCTORS -/
theorem up_s {f : Nat → Nat × Nat} {k : Nat} {v : Nat × Nat} : va_up f k v k = v := if_pos rfl
theorem up_ne {f : Nat → Nat × Nat} {k j : Nat} {v : Nat × Nat} (h : j ≠ k) : va_up f k v j = f j := if_neg h
theorem wp_s {f : Nat → Nat → Option Nat} {a k : Nat} {v : Option Nat} : mm_wp f a k v a k = v := if_pos ⟨rfl, rfl⟩
theorem wp_ne {f : Nat → Nat → Option Nat} {a k b j : Nat} {v : Option Nat} (h : b ≠ a ∨ j ≠ k) : mm_wp f a k v b j = f b j := if_neg (fun q => h.elim (fun z => z q.1) (fun z => z q.2))
theorem wp_row {f : Nat → Nat → Option Nat} {a k b : Nat} {v : Option Nat} (h : b ≠ a) : mm_wp f a k v b = f b := funext fun j => wp_ne (Or.inl h)
section
variable {X : mm_X} {M : mm_M} {mc ms pc : Nat} {lv : List (Nat × Value)} {st : List Value} {I : mm_I} {cl sl n : Nat} {K : Nat → Nat × Nat} {P : Nat → Nat → Option Nat}
theorem mm_newT {idx : Nat} (ci cn : Nat) (hcn : mm_cn ci = cn) (hd : decode M.2.2.1 pc = .ok (.new idx, 3)) (hc : ci < 9) (hw : Cond.classLink M.1 idx (mm_cR ci) ∈ mw_all) (hi : Cond.instantiable (mm_cR ci) (mm_cn ci) ∈ mw_all) (hini : Cond.initialized (mm_cR ci) ∈ mw_all) (hcl : cl + 1 ≤ mc) (hsl : sl + cn ≤ ms) (kk : mm_G X M mc ms (pc + 3) lv (.ref n :: st) (n + 1, va_up K n (ci, 0), P) I (cl + 1) (sl + cn)) : mm_G X M mc ms pc lv st (n, K, P) I cl sl := by
  subst hcn
  exact mm_new ci hd hc hw hi hini hcl hsl kk
theorem mm_newaT {x : Int32} {N : Nat} (hd : decode M.2.2.1 pc = .ok (.newarray .int, 2)) (hw : Cond.arrayClass .int ∈ mw_all) (hn : ¬ x < 0) (hN : x.toNatClampNeg = N) (hb : N * 4 ≤ 536870912) (hcl : cl + 1 ≤ mc) (hsl : sl + N ≤ ms) (kk : mm_G X M mc ms (pc + 2) lv (.ref n :: st) (n + 1, va_up K n (9, N), P) I (cl + 1) (sl + N)) : mm_G X M mc ms pc lv (.int x :: st) (n, K, P) I cl sl := mm_newa hd hw hn hN hb hcl hsl kk
theorem mm_newqT {x : Int32} {N idx : Nat} (t : Nat) (C0 : String) (hd : decode M.2.2.1 pc = .ok (.anewarray idx, 3)) (ht : (t = 0 ∧ C0 = RX4) ∨ (t = 1 ∧ C0 = RX2)) (hw : Cond.classLink M.1 idx C0 ∈ mw_all) (hn : ¬ x < 0) (hN : x.toNatClampNeg = N) (hb : N * 4 ≤ 536870912) (hcl : cl + 1 ≤ mc) (hsl : sl + N ≤ ms) (kk : mm_G X M mc ms (pc + 3) lv (.ref n :: st) (n + 1, va_up K n (t + 10, N), P) I (cl + 1) (sl + N)) : mm_G X M mc ms pc lv (.int x :: st) (n, K, P) I cl sl := mm_newq t C0 hd ht hw hn hN hb hcl hsl kk
theorem mm_putRT {idx ci k a b : Nat} {ty : FieldType} (hd : decode M.2.2.1 pc = .ok (.putfield idx, 3)) (hf : mm_F M.1 idx ci k) (hy : mm_cy ci k = ty) (hty : (∃ n, ty = .object n) ∨ ∃ t, ty = .array t) (hfin : (mm_cT ci k).2.2.2 = true) (hin : M.2.1.name = "<init>") (hdecl : (mm_cT ci k).1 = M.1) (ha : (K a).1 = ci) (kk : mm_G X M mc ms (pc + 3) lv st (n, K, mm_wp P a k (some b)) I cl sl) : mm_G X M mc ms pc lv (.ref b :: .ref a :: st) (n, K, P) I cl sl := mm_putR hd hf hy hty hfin hin hdecl ha kk
theorem mm_aastT {a N t v ci : Nat} {i : Int32} (hd : decode M.2.2.1 pc = .ok (.aastore, 1)) (ha : K a = (t + 10, N)) (ht : (t = 0 ∧ ci = 4) ∨ (t = 1 ∧ ci = 2)) (hv : (K v).1 = ci) (hi : vp_in i N) (kk : mm_G X M mc ms (pc + 1) lv st (n, K, mm_wp P a i.toNatClampNeg (some v)) I cl sl) : mm_G X M mc ms pc lv (.ref v :: .int i :: .ref a :: st) (n, K, P) I cl sl := mm_aast hd ha ht hv hi kk
theorem mm_G.cs {S : mm_S} {cl' sl' : Nat} (h1 : cl = cl') (h2 : sl = sl') (k : mm_G X M mc ms pc lv st S I cl' sl') : mm_G X M mc ms pc lv st S I cl sl := h1 ▸ h2 ▸ k
end
/-- what stood before the address a stands -/
def s_bef (a : Nat) (S S' : mm_S) : Prop := ∀ b, b < a → S'.2.1 b = S.2.1 b ∧ S'.2.2 b = S.2.2 b
theorem mm_bar.mono {S S' : mm_S} {b : Nat} (h : ∀ c, b ≤ c → c < b + 2 → S'.2.1 c = S.2.1 c ∧ S'.2.2 c = S.2.2 c) (g : mm_bar S b) : mm_bar S' b := by
  obtain ⟨g1, g2, g3⟩ := g
  exact ⟨by rw [(h b (by omega) (by omega)).1]; exact g1, by rw [(h b (by omega) (by omega)).2]; exact g2, by rw [(h (b + 1) (by omega) (by omega)).1]; exact g3⟩
theorem mm_bk.mono {S S' : mm_S} {b : Nat} (h : ∀ c, b ≤ c → c < b + 2 → S'.2.1 c = S.2.1 c ∧ S'.2.2 c = S.2.2 c) (g : mm_bk S b) : mm_bk S' b := by
  obtain ⟨g1, g2, g3⟩ := g
  exact ⟨by rw [(h b (by omega) (by omega)).1]; exact g1, by rw [(h b (by omega) (by omega)).2]; exact g2, by rw [(h (b + 1) (by omega) (by omega)).1]; exact g3⟩
theorem mm_lot.mono {S S' : mm_S} {b : Nat} (h : ∀ c, b ≤ c → c < b + 6 → S'.2.1 c = S.2.1 c ∧ S'.2.2 c = S.2.2 c) (g : mm_lot S b) : mm_lot S' b := by
  obtain ⟨g1, g2, g3, g4, g5, g6, g7, g8, g9⟩ := g
  have h0 := h b (by omega) (by omega)
  exact ⟨by rw [h0.1]; exact g1, by rw [h0.2]; exact g2, by rw [h0.2]; exact g3, by rw [h0.2]; exact g4, by rw [h0.2]; exact g5, g6.mono (fun c c1 c2 => h c (by omega) (by omega)), by rw [(h (b + 3) (by omega) (by omega)).1]; exact g7, by rw [(h (b + 4) (by omega) (by omega)).1]; exact g8, by rw [(h (b + 5) (by omega) (by omega)).1]; exact g9⟩
theorem mm_est.mono {S S' : mm_S} {e : Nat} (h : ∀ c, e ≤ c → c < e + 43 → S'.2.1 c = S.2.1 c ∧ S'.2.2 c = S.2.2 c) (g : mm_est S e) : mm_est S' e := by
  obtain ⟨g1, g2, g3, g4, g5, g6, g7, g8, g9, g10⟩ := g
  have h0 := h e (by omega) (by omega)
  have h1 := h (e + 1) (by omega) (by omega)
  refine ⟨by rw [h0.1]; exact g1, by rw [h0.2]; exact g2, by rw [h0.2]; exact g3, by rw [h0.2]; exact g4, by rw [h0.2]; exact g5, by rw [h1.1]; exact g6, by rw [(h (e + 2) (by omega) (by omega)).1]; exact g7, g8.mono (fun c c1 c2 => h c (by omega) (by omega)), g9.mono (fun c c1 c2 => h c (by omega) (by omega)), fun l hl => ⟨by rw [h1.2]; exact (g10 l hl).1, (g10 l hl).2.mono (fun c c1 c2 => h c (by omega) (by omega))⟩⟩
theorem mm_hist.mono {S S' : mm_S} {y : Nat} (h : ∀ c, y ≤ c → c < y + 217 → S'.2.1 c = S.2.1 c ∧ S'.2.2 c = S.2.2 c) (g : mm_hist S y) : mm_hist S' y := by
  obtain ⟨g1, g2, g3, g4⟩ := g
  have h0 := h y (by omega) (by omega)
  have h1 := h (y + 1) (by omega) (by omega)
  exact ⟨by rw [h0.1]; exact g1, by rw [h0.2]; exact g2, by rw [h1.1]; exact g3, fun i hi => ⟨by rw [h1.2]; exact (g4 i hi).1, (g4 i hi).2.mono (fun c c1 c2 => h c (by omega) (by omega))⟩⟩
theorem mm_ord.mono {S S' : mm_S} {o : Nat} (h : ∀ c, o ≤ c → c < o + 3 → S'.2.1 c = S.2.1 c ∧ S'.2.2 c = S.2.2 c) (g : mm_ord S o) : mm_ord S' o := by
  obtain ⟨g1, g2, g3, g4, g5⟩ := g
  have h0 := h o (by omega) (by omega)
  exact ⟨by rw [h0.1]; exact g1, by rw [h0.2]; exact g2, by rw [h0.2]; exact g3, by rw [(h (o + 1) (by omega) (by omega)).1]; exact g4, by rw [(h (o + 2) (by omega) (by omega)).1]; exact g5⟩
theorem mm_tri.mono {S S' : mm_S} {t : Nat} (h : ∀ c, t ≤ c → c < t + 44 → S'.2.1 c = S.2.1 c ∧ S'.2.2 c = S.2.2 c) (g : mm_tri S t) : mm_tri S' t := by
  obtain ⟨g1, g2, g3⟩ := g
  have h0 := h t (by omega) (by omega)
  exact ⟨by rw [h0.1]; exact g1, by rw [h0.2]; exact g2, g3.mono (fun c c1 c2 => h c (by omega) (by omega))⟩
/-- a constructor's contract: the object at a, all that it makes behind it -/
def mm_cn_Q (a w : Nat) (S : mm_S) (J : mm_I) (R : mm_S → Prop) : Option Value → mm_S → mm_I → Prop := fun v S' I' => v = none ∧ S'.1 = a + w ∧ s_bef a S S' ∧ R S' ∧ I' = J

set_option maxRecDepth 100000 in
set_option maxHeartbeats 4000000 in
theorem c_X0_init {a : Nat} {K : Nat → Nat × Nat} {P : Nat → Nat → Option Nat} {I : mm_I} (hk : (K a).1 = 0) : mm_Ct mX0_init 1 12 [.ref a] (a + 1, K, P) I (mm_cn_Q a 2 (a + 1, K, P) I (fun S' => mm_bar S' a)) := by
  refine mm_Ct.of okX0_init rfl (Nat.le_of_ble_eq_true rfl) (lv := [(0, .ref a)]) rfl ?_
  refine mm_aload_n dX0_init_0 rfl rfl ?_
  refine mm_objInit dX0_init_1 li_X0_3 oi_im oi_code (by decide) (by decide) ?_
  refine mm_aload_n dX0_init_4 rfl rfl ?_
  refine mm_bipush 12 dX0_init_5 rfl ?_
  refine mm_newaT (N := 12) dX0_init_7 arr_I (by decide) (by decide) (by decide) (by omega) (by omega) ?_
  refine mm_putRT dX0_init_9 fl_X0_9 rfl (Or.inr ⟨_, rfl⟩) rfl rfl rfl (by (try dsimp only); (repeat rw [up_ne (by omega)]); first | assumption | (rw [up_s])) ?_
  refine mm_vret dX0_init_12 rfl ?_
  refine ⟨rfl, rfl, fun b hb => ⟨up_ne (by omega), wp_row (by omega)⟩, ⟨?_, ?_, ?_⟩, rfl⟩
  · show (va_up (α := Nat × Nat) _ _ _ _).1 = _
    rw [up_ne (by omega)]; exact hk
  · exact wp_s
  · exact up_s
set_option maxRecDepth 100000 in
set_option maxHeartbeats 4000000 in
theorem c_X1_init {a : Nat} {K : Nat → Nat × Nat} {P : Nat → Nat → Option Nat} {I : mm_I} (hk : (K a).1 = 1) : mm_Ct mX1_init 1 72 [.ref a] (a + 1, K, P) I (mm_cn_Q a 2 (a + 1, K, P) I (fun S' => mm_bk S' a)) := by
  refine mm_Ct.of okX1_init rfl (Nat.le_of_ble_eq_true rfl) (lv := [(0, .ref a)]) rfl ?_
  refine mm_aload_n dX1_init_0 rfl rfl ?_
  refine mm_objInit dX1_init_1 li_X1_3 oi_im oi_code (by decide) (by decide) ?_
  refine mm_aload_n dX1_init_4 rfl rfl ?_
  refine mm_bipush 72 dX1_init_5 rfl ?_
  refine mm_newaT (N := 72) dX1_init_7 arr_I (by decide) (by decide) (by decide) (by omega) (by omega) ?_
  refine mm_putRT dX1_init_9 fl_X1_9 rfl (Or.inr ⟨_, rfl⟩) rfl rfl rfl (by (try dsimp only); (repeat rw [up_ne (by omega)]); first | assumption | (rw [up_s])) ?_
  refine mm_vret dX1_init_12 rfl ?_
  refine ⟨rfl, rfl, fun b hb => ⟨up_ne (by omega), wp_row (by omega)⟩, ⟨?_, ?_, ?_⟩, rfl⟩
  · show (va_up (α := Nat × Nat) _ _ _ _).1 = _
    rw [up_ne (by omega)]; exact hk
  · exact wp_s
  · exact up_s
set_option maxRecDepth 100000 in
set_option maxHeartbeats 4000000 in
theorem c_X5_init {a : Nat} {K : Nat → Nat × Nat} {P : Nat → Nat → Option Nat} {I : mm_I} (hk : (K a).1 = 5) : mm_Ct mX5_init 2 64 [.ref a] (a + 1, K, P) I (mm_cn_Q a 3 (a + 1, K, P) I (fun S' => mm_ord S' a)) := by
  refine mm_Ct.of okX5_init rfl (Nat.le_of_ble_eq_true rfl) (lv := [(0, .ref a)]) rfl ?_
  refine mm_aload_n dX5_init_0 rfl rfl ?_
  refine mm_objInit dX5_init_1 li_X5_3 oi_im oi_code (by decide) (by decide) ?_
  refine mm_aload_n dX5_init_4 rfl rfl ?_
  refine mm_bipush 60 dX5_init_5 rfl ?_
  refine mm_newaT (N := 60) dX5_init_7 arr_I (by decide) (by decide) (by decide) (by omega) (by omega) ?_
  refine mm_putRT dX5_init_9 fl_X5_9 rfl (Or.inr ⟨_, rfl⟩) rfl rfl rfl (by (try dsimp only); (repeat rw [up_ne (by omega)]); first | assumption | (rw [up_s])) ?_
  refine mm_aload_n dX5_init_12 rfl rfl ?_
  refine mm_iconst 4 dX5_init_13 rfl ?_
  refine mm_newaT (N := 4) dX5_init_14 arr_I (by decide) (by decide) (by decide) (by omega) (by omega) ?_
  refine mm_putRT dX5_init_16 fl_X5_15 rfl (Or.inr ⟨_, rfl⟩) rfl rfl rfl (by (try dsimp only); (repeat rw [up_ne (by omega)]); first | assumption | (rw [up_s])) ?_
  refine mm_vret dX5_init_19 rfl ?_
  refine ⟨rfl, rfl, fun b hb => ⟨(up_ne (by omega)).trans (up_ne (by omega)), (wp_row (by omega)).trans (wp_row (by omega))⟩, ⟨?_, ?_, ?_, ?_, ?_⟩, rfl⟩
  · show (va_up (α := Nat × Nat) _ _ _ _).1 = _
    rw [up_ne (by omega), up_ne (by omega)]; exact hk
  · exact (wp_ne (Or.inr (by decide))).trans wp_s
  · exact wp_s
  · exact (up_ne (by omega)).trans up_s
  · exact up_s
set_option maxRecDepth 100000 in
set_option maxHeartbeats 4000000 in
theorem c_X4_init {a : Nat} {K : Nat → Nat × Nat} {P : Nat → Nat → Option Nat} {I : mm_I} (hk : (K a).1 = 4) : mm_Ct mX4_init 5 33 [.ref a] (a + 1, K, P) I (mm_cn_Q a 6 (a + 1, K, P) I (fun S' => mm_lot S' a)) := by
  refine mm_Ct.of okX4_init rfl (Nat.le_of_ble_eq_true rfl) (lv := [(0, .ref a)]) rfl ?_
  refine mm_aload_n dX4_init_0 rfl rfl ?_
  refine mm_objInit dX4_init_1 li_X4_3 oi_im oi_code (by decide) (by decide) ?_
  refine mm_aload_n dX4_init_4 rfl rfl ?_
  refine mm_newT 0 3 rfl dX4_init_5 (by decide) cl_X4_9 ist_X0 ini_X0 (by omega) (by omega) ?_
  refine mm_dup dX4_init_8 rfl ?_
  refine mm_INm (N := mX0_init) (as := []) dX4_init_9 lk_X4_11 rfl okX0_init (by decide) rfl rfl (by first | decide | (simp [Value.category])) (c_X0_init (a := a + 1) (by rw [up_s])) (by omega) (by omega) (fun v S9 I9 h => ?_)
  obtain ⟨rfl, hn, hb, hr, rfl⟩ := h
  obtain ⟨n9, K9, P9⟩ := S9
  have hn : n9 = a + 1 + 2 := hn
  subst hn
  have hb : ∀ b, b < a + 1 → K9 b = _ ∧ P9 b = _ := hb
  have hk9 : (K9 a).1 = 4 := by rw [(hb a (by omega)).1]; show (va_up (α := Nat × Nat) _ _ _ _).1 = _; rw [up_ne (by omega)]; exact hk
  refine mm_putRT dX4_init_12 fl_X4_12 rfl (Or.inl ⟨_, rfl⟩) rfl rfl rfl (by (try dsimp only); (repeat rw [up_ne (by omega)]); first | assumption | (rw [up_s])) ?_
  refine mm_aload_n dX4_init_15 rfl rfl ?_
  refine mm_bipush 6 dX4_init_16 rfl ?_
  refine mm_newaT (N := 6) dX4_init_18 arr_I (by decide) (by decide) (by decide) (by omega) (by omega) ?_
  refine mm_putRT dX4_init_20 fl_X4_18 rfl (Or.inr ⟨_, rfl⟩) rfl rfl rfl (by (try dsimp only); (repeat rw [up_ne (by omega)]); first | assumption | (rw [up_s])) ?_
  refine mm_aload_n dX4_init_23 rfl rfl ?_
  refine mm_bipush 6 dX4_init_24 rfl ?_
  refine mm_newaT (N := 6) dX4_init_26 arr_I (by decide) (by decide) (by decide) (by omega) (by omega) ?_
  refine mm_putRT dX4_init_28 fl_X4_22 rfl (Or.inr ⟨_, rfl⟩) rfl rfl rfl (by (try dsimp only); (repeat rw [up_ne (by omega)]); first | assumption | (rw [up_s])) ?_
  refine mm_aload_n dX4_init_31 rfl rfl ?_
  refine mm_bipush 6 dX4_init_32 rfl ?_
  refine mm_newaT (N := 6) dX4_init_34 arr_I (by decide) (by decide) (by decide) (by omega) (by omega) ?_
  refine mm_putRT dX4_init_36 fl_X4_25 rfl (Or.inr ⟨_, rfl⟩) rfl rfl rfl (by (try dsimp only); (repeat rw [up_ne (by omega)]); first | assumption | (rw [up_s])) ?_
  refine mm_vret dX4_init_39 rfl ?_
  refine ⟨rfl, rfl, fun b hb2 => ⟨?_, ?_⟩, ⟨?_, ?_, ?_, ?_, ?_, ?_, ?_, ?_, ?_⟩, rfl⟩
  · show va_up (α := Nat × Nat) _ _ _ _ = _
    rw [up_ne (by omega), up_ne (by omega), up_ne (by omega), (hb b (by omega)).1]
    exact up_ne (by omega)
  · show mm_wp _ _ _ _ _ = _
    rw [wp_row (by omega), wp_row (by omega), wp_row (by omega), wp_row (by omega), (hb b (by omega)).2]
  · show (va_up (α := Nat × Nat) _ _ _ _).1 = _
    rw [up_ne (by omega), up_ne (by omega), up_ne (by omega)]; exact hk9
  · exact (wp_ne (Or.inr (by decide))).trans ((wp_ne (Or.inr (by decide))).trans ((wp_ne (Or.inr (by decide))).trans wp_s))
  · exact (wp_ne (Or.inr (by decide))).trans ((wp_ne (Or.inr (by decide))).trans wp_s)
  · exact (wp_ne (Or.inr (by decide))).trans wp_s
  · exact wp_s
  · refine mm_bar.mono (fun c c1 c2 => ⟨?_, ?_⟩) hr
    · show va_up (α := Nat × Nat) _ _ _ _ = _
      rw [up_ne (by omega), up_ne (by omega), up_ne (by omega)]
    · show mm_wp _ _ _ _ _ = _
      rw [wp_row (by omega), wp_row (by omega), wp_row (by omega), wp_row (by omega)]
  · exact (up_ne (by omega)).trans ((up_ne (by omega)).trans up_s)
  · exact (up_ne (by omega)).trans up_s
  · exact up_s
