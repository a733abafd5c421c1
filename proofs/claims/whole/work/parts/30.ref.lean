/-! THE REFERENCE, its leaves -/
/-- the wine at hand -/
def rw_at (I : mm_I) (m n : Nat) (w : Nat → Nat) : Prop := I m 8 = nI n ∧ ∀ k, k < n → I (m + 5) k = nI (w k)
/-- nothing changed but the wine at hand -/
def r_fr (I J : mm_I) (m : Nat) : Prop := (∀ c, c ≠ m → c ≠ m + 5 → J c = I c) ∧ ∀ j, j ≠ 8 → J m j = I m j
theorem r_fr.rf {I : mm_I} {m : Nat} : r_fr I I m := ⟨fun _ _ _ => rfl, fun _ _ => rfl⟩
theorem r_fr.tr {I J K : mm_I} {m : Nat} (h : r_fr I J m) (g : r_fr J K m) : r_fr I K m := ⟨fun c h1 h2 => by rw [g.1 c h1 h2]; exact h.1 c h1 h2, fun j hj => by rw [g.2 j hj]; exact h.2 j hj⟩
theorem r_fr.w {I J : mm_I} {m k : Nat} {x : Int32} (h : r_fr I J m) : r_fr I (mm_wr J (m + 5) k x) m := ⟨fun c h1 h2 => by rw [mm_wr_row h2]; exact h.1 c h1 h2, fun j hj => by rw [mm_wr_a (by omega)]; exact h.2 j hj⟩
theorem r_fr.b {I J : mm_I} {m : Nat} {x : Int32} (h : r_fr I J m) : r_fr I (mm_wr J m 8 x) m := ⟨fun c h1 h2 => by rw [mm_wr_row h1]; exact h.1 c h1 h2, fun j hj => by rw [mm_wr_k hj]; exact h.2 j hj⟩
theorem r_fr.s {I J : mm_I} {m : Nat} (h : r_fr I J m) : J (m + 1) = I (m + 1) := h.1 (m + 1) (by omega) (by omega)

set_option maxRecDepth 100000 in
set_option maxHeartbeats 4000000 in
theorem r_in {S : mm_S} {I : mm_I} {v x y : Int32} : mm_ci mX8_in [.int v, .int x, .int y] S I (fun q J => q = (if x ≤ v ∧ v ≤ y then 1 else 0) ∧ J = I) := by
  refine mm_ci.of okX8_in rfl (Nat.le_of_ble_eq_true rfl) (lv := [(0, .int v), (1, .int x), (2, .int y)]) rfl ?_
  refine mm_iload_n dX8_in_0 rfl rfl ?_
  refine mm_iload_n dX8_in_1 rfl rfl ?_
  refine mm_icmp_lt 14 dX8_in_2 (by decide) (fun c1 => ?_) (fun c1 => ?_)
  · skip
    refine mm_iconst 0 dX8_in_14 rfl ?_
    refine mm_zret dX8_in_15 rfl (by first | exact Or.inl rfl | exact Or.inr rfl | assumption) ?_
    exact ⟨rfl, _, rfl, by first | exact (if_neg (fun q => absurd c1 (Int32.not_lt.mpr q.1))).symm | exact (if_neg (fun q => absurd c2 (Int32.not_lt.mpr q.2))).symm | exact (if_pos ⟨Int32.not_lt.mp c1, Int32.not_lt.mp c2⟩).symm, rfl⟩
  · skip
    refine mm_iload_n dX8_in_5 rfl rfl ?_
    refine mm_iload_n dX8_in_6 rfl rfl ?_
    refine mm_icmp_gt 14 dX8_in_7 (by decide) (fun c2 => ?_) (fun c2 => ?_)
    · skip
      refine mm_iconst 0 dX8_in_14 rfl ?_
      refine mm_zret dX8_in_15 rfl (by first | exact Or.inl rfl | exact Or.inr rfl | assumption) ?_
      exact ⟨rfl, _, rfl, by first | exact (if_neg (fun q => absurd c1 (Int32.not_lt.mpr q.1))).symm | exact (if_neg (fun q => absurd c2 (Int32.not_lt.mpr q.2))).symm | exact (if_pos ⟨Int32.not_lt.mp c1, Int32.not_lt.mp c2⟩).symm, rfl⟩
    · skip
      refine mm_iconst 1 dX8_in_10 rfl ?_
      refine mm_goto 15 dX8_in_11 (by decide) ?_
      refine mm_zret dX8_in_15 rfl (by first | exact Or.inl rfl | exact Or.inr rfl | assumption) ?_
      exact ⟨rfl, _, rfl, by first | exact (if_neg (fun q => absurd c1 (Int32.not_lt.mpr q.1))).symm | exact (if_neg (fun q => absurd c2 (Int32.not_lt.mpr q.2))).symm | exact (if_pos ⟨Int32.not_lt.mp c1, Int32.not_lt.mp c2⟩).symm, rfl⟩
set_option maxRecDepth 100000 in
set_option maxHeartbeats 4000000 in
theorem r_isLot {S : mm_S} {I : mm_I} {m : Nat} {l : Int32} (hM : mm_ref S m) : mm_ci mX8_isLot [.ref m, .int l] S I (fun q J => q = (if 0 ≤ l ∧ l < I (m + 1) 0 then 1 else 0) ∧ J = I) := by
  obtain ⟨hk, hp0, hp1, hp2, hp5, hp7, hp15, hk1, hk2, hk3, hk4, hk5, hk6⟩ := hM
  refine mm_ci.of okX8_isLot rfl (Nat.le_of_ble_eq_true rfl) (lv := [(0, .ref m), (1, .int l)]) rfl ?_
  refine mm_iload_n dX8_isLot_0 rfl rfl ?_
  refine mm_if_lt 18 dX8_isLot_1 (by decide) (fun c1 => ?_) (fun c1 => ?_)
  · skip
    refine mm_iconst 0 dX8_isLot_18 rfl ?_
    refine mm_zret dX8_isLot_19 rfl (by first | exact Or.inl rfl | exact Or.inr rfl | assumption) ?_
    exact ⟨rfl, _, rfl, by first | exact (if_neg (fun q => absurd c1 (Int32.not_lt.mpr q.1))).symm | exact (if_neg (fun q => absurd q.2 (Int32.not_lt.mpr c2))).symm | exact (if_pos ⟨Int32.not_lt.mp c1, Int32.not_le.mp c2⟩).symm, rfl⟩
  · skip
    refine mm_iload_n dX8_isLot_4 rfl rfl ?_
    refine mm_aload_n dX8_isLot_5 rfl rfl ?_
    refine mm_getR dX8_isLot_6 fl_X8_7 rfl (by assumption) (by assumption) ?_
    refine mm_iconst 0 dX8_isLot_9 rfl ?_
    refine mm_iald dX8_isLot_10 (by assumption) (vp_in_nI (n := 0) (by omega) (by omega)) ?_
    rw [show (0 : Int32).toNatClampNeg = 0 from rfl]
    refine mm_icmp_ge 18 dX8_isLot_11 (by decide) (fun c2 => ?_) (fun c2 => ?_)
    · skip
      refine mm_iconst 0 dX8_isLot_18 rfl ?_
      refine mm_zret dX8_isLot_19 rfl (by first | exact Or.inl rfl | exact Or.inr rfl | assumption) ?_
      exact ⟨rfl, _, rfl, by first | exact (if_neg (fun q => absurd c1 (Int32.not_lt.mpr q.1))).symm | exact (if_neg (fun q => absurd q.2 (Int32.not_lt.mpr c2))).symm | exact (if_pos ⟨Int32.not_lt.mp c1, Int32.not_le.mp c2⟩).symm, rfl⟩
    · skip
      refine mm_iconst 1 dX8_isLot_14 rfl ?_
      refine mm_goto 19 dX8_isLot_15 (by decide) ?_
      refine mm_zret dX8_isLot_19 rfl (by first | exact Or.inl rfl | exact Or.inr rfl | assumption) ?_
      exact ⟨rfl, _, rfl, by first | exact (if_neg (fun q => absurd c1 (Int32.not_lt.mpr q.1))).symm | exact (if_neg (fun q => absurd q.2 (Int32.not_lt.mpr c2))).symm | exact (if_pos ⟨Int32.not_lt.mp c1, Int32.not_le.mp c2⟩).symm, rfl⟩
set_option maxRecDepth 100000 in
set_option maxHeartbeats 4000000 in
theorem r_isBuyer {S : mm_S} {I : mm_I} {m : Nat} {l : Int32} (hM : mm_ref S m) : mm_ci mX8_isBuyer [.ref m, .int l] S I (fun q J => q = (if 0 ≤ l ∧ l < I (m + 1) 1 then 1 else 0) ∧ J = I) := by
  obtain ⟨hk, hp0, hp1, hp2, hp5, hp7, hp15, hk1, hk2, hk3, hk4, hk5, hk6⟩ := hM
  refine mm_ci.of okX8_isBuyer rfl (Nat.le_of_ble_eq_true rfl) (lv := [(0, .ref m), (1, .int l)]) rfl ?_
  refine mm_iload_n dX8_isBuyer_0 rfl rfl ?_
  refine mm_if_lt 18 dX8_isBuyer_1 (by decide) (fun c1 => ?_) (fun c1 => ?_)
  · skip
    refine mm_iconst 0 dX8_isBuyer_18 rfl ?_
    refine mm_zret dX8_isBuyer_19 rfl (by first | exact Or.inl rfl | exact Or.inr rfl | assumption) ?_
    exact ⟨rfl, _, rfl, by first | exact (if_neg (fun q => absurd c1 (Int32.not_lt.mpr q.1))).symm | exact (if_neg (fun q => absurd q.2 (Int32.not_lt.mpr c2))).symm | exact (if_pos ⟨Int32.not_lt.mp c1, Int32.not_le.mp c2⟩).symm, rfl⟩
  · skip
    refine mm_iload_n dX8_isBuyer_4 rfl rfl ?_
    refine mm_aload_n dX8_isBuyer_5 rfl rfl ?_
    refine mm_getR dX8_isBuyer_6 fl_X8_7 rfl (by assumption) (by assumption) ?_
    refine mm_iconst 1 dX8_isBuyer_9 rfl ?_
    refine mm_iald dX8_isBuyer_10 (by assumption) (vp_in_nI (n := 1) (by omega) (by omega)) ?_
    rw [show (1 : Int32).toNatClampNeg = 1 from rfl]
    refine mm_icmp_ge 18 dX8_isBuyer_11 (by decide) (fun c2 => ?_) (fun c2 => ?_)
    · skip
      refine mm_iconst 0 dX8_isBuyer_18 rfl ?_
      refine mm_zret dX8_isBuyer_19 rfl (by first | exact Or.inl rfl | exact Or.inr rfl | assumption) ?_
      exact ⟨rfl, _, rfl, by first | exact (if_neg (fun q => absurd c1 (Int32.not_lt.mpr q.1))).symm | exact (if_neg (fun q => absurd q.2 (Int32.not_lt.mpr c2))).symm | exact (if_pos ⟨Int32.not_lt.mp c1, Int32.not_le.mp c2⟩).symm, rfl⟩
    · skip
      refine mm_iconst 1 dX8_isBuyer_14 rfl ?_
      refine mm_goto 19 dX8_isBuyer_15 (by decide) ?_
      refine mm_zret dX8_isBuyer_19 rfl (by first | exact Or.inl rfl | exact Or.inr rfl | assumption) ?_
      exact ⟨rfl, _, rfl, by first | exact (if_neg (fun q => absurd c1 (Int32.not_lt.mpr q.1))).symm | exact (if_neg (fun q => absurd q.2 (Int32.not_lt.mpr c2))).symm | exact (if_pos ⟨Int32.not_lt.mp c1, Int32.not_le.mp c2⟩).symm, rfl⟩
set_option maxRecDepth 100000 in
set_option maxHeartbeats 4000000 in
theorem r_of {S : mm_S} {I : mm_I} {m l f : Nat} (hM : mm_ref S m) (hl : l < 6) (hf : f < 20) : mm_ci mX8_of [.ref m, .int (nI l), .int (nI f)] S I (fun q J => q = I (m + 1) (9 + 20 * l + f) ∧ J = I) := by
  obtain ⟨hk, hp0, hp1, hp2, hp5, hp7, hp15, hk1, hk2, hk3, hk4, hk5, hk6⟩ := hM
  refine mm_ci.of okX8_of rfl (Nat.le_of_ble_eq_true rfl) (lv := [(0, .ref m), (1, .int (nI l)), (2, .int (nI f))]) rfl ?_
  refine mm_aload_n dX8_of_0 rfl rfl ?_
  refine mm_getR dX8_of_1 fl_X8_7 rfl (by assumption) (by assumption) ?_
  refine mm_bipush 9 dX8_of_4 rfl ?_
  refine mm_bipush 20 dX8_of_6 rfl ?_
  refine mm_iload_n dX8_of_8 rfl rfl ?_
  refine mm_imul dX8_of_9 ?_
  refine mm_tope (y := nI (20 * l)) (pk_mul 20 l) ?_
  refine mm_iadd dX8_of_10 ?_
  refine mm_tope (y := nI (9 + 20 * l)) (nI_add 9 _) ?_
  refine mm_iload_n dX8_of_11 rfl rfl ?_
  refine mm_iadd dX8_of_12 ?_
  refine mm_tope (y := nI (9 + 20 * l + f)) (nI_add _ _) ?_
  refine mm_iald dX8_of_13 (by assumption) (vp_in_nI (by omega) (by omega)) ?_
  rw [nI_clamp (by omega)]
  refine mm_iret dX8_of_14 rfl ?_
  exact ⟨rfl, _, rfl, rfl, rfl⟩
set_option maxRecDepth 100000 in
set_option maxHeartbeats 4000000 in
theorem r_isOpen {S : mm_S} {I : mm_I} {m l : Nat} (hM : mm_ref S m) (hl : l < 6) : mm_ci mX8_isOpen [.ref m, .int (nI l)] S I (fun q J => q = (if I (m + 1) (13 + 20 * l) = 0 then 1 else 0) ∧ J = I) := by
  have hM0 := hM
  obtain ⟨hk, hp0, hp1, hp2, hp5, hp7, hp15, hk1, hk2, hk3, hk4, hk5, hk6⟩ := hM
  refine mm_ci.of okX8_isOpen rfl (Nat.le_of_ble_eq_true rfl) (lv := [(0, .ref m), (1, .int (nI l))]) rfl ?_
  refine mm_aload_n dX8_isOpen_0 rfl rfl ?_
  refine mm_iload_n dX8_isOpen_1 rfl rfl ?_
  refine mm_iconst 4 dX8_isOpen_2 rfl ?_
  refine mm_Vi (N := mX8_of) (ci := 8) (as := [_, _]) dX8_isOpen_3 lk_X8_36 okX8_of (by decide) rfl (by decide) rfl (by assumption) rfl (by decide) (r_of (f := 4) hM0 hl (by omega)) (fun r1 J1 hq => ?_)
  obtain ⟨rfl, hJ⟩ := hq
  subst J1
  rw [show 9 + 20 * l + 4 = 13 + 20 * l by omega]
  refine mm_if_ne 13 dX8_isOpen_6 (by decide) (fun c_6 => ?_) (fun c_6 => ?_)
  · skip
    refine mm_iconst 0 dX8_isOpen_13 rfl ?_
    refine mm_zret dX8_isOpen_14 rfl (by first | exact Or.inl rfl | exact Or.inr rfl | assumption) ?_
    exact ⟨rfl, _, rfl, by first | exact (if_neg c_6).symm | exact (if_pos c_6).symm, rfl⟩
  · skip
    refine mm_iconst 1 dX8_isOpen_9 rfl ?_
    refine mm_goto 14 dX8_isOpen_10 (by decide) ?_
    refine mm_zret dX8_isOpen_14 rfl (by first | exact Or.inl rfl | exact Or.inr rfl | assumption) ?_
    exact ⟨rfl, _, rfl, by first | exact (if_neg c_6).symm | exact (if_pos c_6).symm, rfl⟩
set_option maxRecDepth 100000 in
set_option maxHeartbeats 4000000 in
theorem r_hold {S : mm_S} {I : mm_I} {b l f : Nat} : mm_ci mX8_hold [.int (nI b), .int (nI l), .int (nI f)] S I (fun q J => q = nI (136 + 18 * b + 3 * l + f) ∧ J = I) := by
  refine mm_ci.of okX8_hold rfl (Nat.le_of_ble_eq_true rfl) (lv := [(0, .int (nI b)), (1, .int (nI l)), (2, .int (nI f))]) rfl ?_
  refine mm_sipush 136 dX8_hold_0 rfl ?_
  refine mm_bipush 18 dX8_hold_3 rfl ?_
  refine mm_iload_n dX8_hold_5 rfl rfl ?_
  refine mm_imul dX8_hold_6 ?_
  refine mm_tope (y := nI (18 * b)) (pk_mul 18 b) ?_
  refine mm_iadd dX8_hold_7 ?_
  refine mm_tope (y := nI (136 + 18 * b)) (nI_add 136 _) ?_
  refine mm_iconst 3 dX8_hold_8 rfl ?_
  refine mm_iload_n dX8_hold_9 rfl rfl ?_
  refine mm_imul dX8_hold_10 ?_
  refine mm_tope (y := nI (3 * l)) (pk_mul 3 l) ?_
  refine mm_iadd dX8_hold_11 ?_
  refine mm_tope (y := nI (136 + 18 * b + 3 * l)) (nI_add _ _) ?_
  refine mm_iload_n dX8_hold_12 rfl rfl ?_
  refine mm_iadd dX8_hold_13 ?_
  refine mm_tope (y := nI (136 + 18 * b + 3 * l + f)) (nI_add _ _) ?_
  refine mm_iret dX8_hold_14 rfl ?_
  exact ⟨rfl, _, rfl, rfl, rfl⟩
set_option maxRecDepth 100000 in
set_option maxHeartbeats 4000000 in
theorem r_holds {S : mm_S} {I : mm_I} {m b l : Nat} (hM : mm_ref S m) (hb : b < 6) (hl : l < 6) : mm_ci mX8_holds [.ref m, .int (nI b), .int (nI l)] S I (fun q J => q = I (m + 1) (136 + 18 * b + 3 * l) ∧ J = I) := by
  obtain ⟨hk, hp0, hp1, hp2, hp5, hp7, hp15, hk1, hk2, hk3, hk4, hk5, hk6⟩ := hM
  refine mm_ci.of okX8_holds rfl (Nat.le_of_ble_eq_true rfl) (lv := [(0, .ref m), (1, .int (nI b)), (2, .int (nI l))]) rfl ?_
  refine mm_aload_n dX8_holds_0 rfl rfl ?_
  refine mm_getR dX8_holds_1 fl_X8_7 rfl (by assumption) (by assumption) ?_
  refine mm_iload_n dX8_holds_4 rfl rfl ?_
  refine mm_iload_n dX8_holds_5 rfl rfl ?_
  refine mm_iconst 0 dX8_holds_6 rfl ?_
  refine mm_Si (N := mX8_hold) (as := [_, _, _]) dX8_holds_7 lk_X8_40 okX8_hold (by decide) rfl rfl (by first | decide | (simp [Value.category])) (r_hold (f := 0)) (fun r1 J1 hq => ?_)
  obtain ⟨rfl, hJ⟩ := hq
  subst J1
  refine mm_iald dX8_holds_10 (by assumption) (vp_in_nI (by omega) (by omega)) ?_
  rw [nI_clamp (by omega)]
  refine mm_iret dX8_holds_11 rfl ?_
  exact ⟨rfl, _, rfl, rfl, rfl⟩
set_option maxRecDepth 100000 in
set_option maxHeartbeats 4000000 in
theorem r_allHeld {S : mm_S} {I : mm_I} {m l nb : Nat} {g : Nat → Nat} (hM : mm_ref S m) (hl : l < 6) (h1 : I (m + 1) 1 = nI nb) (hnb : nb ≤ 6) (hg : ∀ b, b < nb → I (m + 1) (136 + 18 * b + 3 * l) = nI (g b)) : mm_ci mX8_allHeld [.ref m, .int (nI l)] S I (fun q J => q = nI (ws_sum g nb) ∧ J = I) := by
  have hM0 := hM
  obtain ⟨hk, hp0, hp1, hp2, hp5, hp7, hp15, hk1, hk2, hk3, hk4, hk5, hk6⟩ := hM
  refine mm_ci.of okX8_allHeld rfl (Nat.le_of_ble_eq_true rfl) (lv := [(0, .ref m), (1, .int (nI l))]) rfl ?_
  have loop : ∀ (t i : Nat), i + t = nb → mm_Gi mX8_allHeld (fun q J => q = nI (ws_sum g nb) ∧ J = I) 4 [(3, .int (nI i)), (2, .int (nI (ws_sum g i))), (0, .ref m), (1, .int (nI l))] [] S S I := by
    intro t
    induction t with
    | zero =>
      intro i hi
      refine mm_iload_n dX8_allHeld_4 rfl rfl ?_
      refine mm_aload_n dX8_allHeld_5 rfl rfl ?_
      refine mm_getR dX8_allHeld_6 fl_X8_7 rfl (by assumption) (by assumption) ?_
      refine mm_iconst 1 dX8_allHeld_9 rfl ?_
      refine mm_iald dX8_allHeld_10 (by assumption) (vp_in_nI (n := 1) (by omega) (by omega)) ?_
      refine mm_tope (y := nI nb) h1 ?_
      refine mm_icmp_ge 29 dX8_allHeld_11 (by decide) (fun c_11 => ?_) (fun c_11 => absurd (nI_le (by omega) (by omega)) c_11)
      refine mm_iload_n dX8_allHeld_29 rfl rfl ?_
      refine mm_iret dX8_allHeld_30 rfl ?_
      exact ⟨rfl, _, rfl, by rw [show i = nb by omega], rfl⟩
    | succ t ih =>
      intro i hi
      refine mm_iload_n dX8_allHeld_4 rfl rfl ?_
      refine mm_aload_n dX8_allHeld_5 rfl rfl ?_
      refine mm_getR dX8_allHeld_6 fl_X8_7 rfl (by assumption) (by assumption) ?_
      refine mm_iconst 1 dX8_allHeld_9 rfl ?_
      refine mm_iald dX8_allHeld_10 (by assumption) (vp_in_nI (n := 1) (by omega) (by omega)) ?_
      refine mm_tope (y := nI nb) h1 ?_
      refine mm_icmp_ge 29 dX8_allHeld_11 (by decide) (fun c_11 => absurd c_11 (nI_ge (by omega) (by omega))) (fun c_11 => ?_)
      refine mm_iload_n dX8_allHeld_14 rfl rfl ?_
      refine mm_aload_n dX8_allHeld_15 rfl rfl ?_
      refine mm_iload_n dX8_allHeld_16 rfl rfl ?_
      refine mm_iload_n dX8_allHeld_17 rfl rfl ?_
      refine mm_Vi (N := mX8_holds) (ci := 8) (as := [_, _]) dX8_allHeld_18 lk_X8_44 okX8_holds (by decide) rfl (by decide) rfl (by assumption) rfl (by first | decide | (simp [Value.category])) (r_holds hM0 (by omega) hl) (fun r1 J1 hq => ?_)
      obtain ⟨rfl, hJ⟩ := hq
      subst J1
      rw [hg i (by omega)]
      refine mm_iadd dX8_allHeld_21 ?_
      refine mm_tope (y := nI (ws_sum g (i + 1))) (nI_add _ _) ?_
      refine mm_istore_n dX8_allHeld_22 rfl (Nat.le_of_ble_eq_true rfl) ?_
      refine mm_iinc 1 dX8_allHeld_23 rfl rfl (Nat.le_of_ble_eq_true rfl) ?_
      rw [nI_1]
      refine mm_goto 4 dX8_allHeld_26 (by decide) ?_
      exact mm_G.at (ih (i + 1) (by omega)) (mm_s1 rfl (mm_s1 rfl (mm_s1 rfl (mm_s1 rfl mm_s0))))
  refine mm_iconst 0 dX8_allHeld_0 rfl ?_
  refine mm_istore_n dX8_allHeld_1 rfl (Nat.le_of_ble_eq_true rfl) ?_
  refine mm_iconst 0 dX8_allHeld_2 rfl ?_
  refine mm_istore_n dX8_allHeld_3 rfl (Nat.le_of_ble_eq_true rfl) ?_
  exact mm_G.at (loop nb 0 (by omega)) (mm_s1 rfl (mm_s1 rfl (mm_s1 rfl (mm_s1 rfl mm_s0))))
set_option maxRecDepth 100000 in
set_option maxHeartbeats 4000000 in
theorem r_loads {S : mm_S} {I : mm_I} {m l n : Nat} {w : Nat → Nat} (hM : mm_ref S m) (hl : l < 6) (h0 : I (m + 1) (9 + 20 * l) = nI n) (hn : n ≤ 12) (hw : ∀ k, k < n → I (m + 1) (17 + 20 * l + k) = nI (w k)) : mm_cv mX8_loads [.ref m, .int (nI l)] S I (fun J => rw_at J m n w ∧ r_fr I J m) := by
  have hM0 := hM
  obtain ⟨hk, hp0, hp1, hp2, hp5, hp7, hp15, hk1, hk2, hk3, hk4, hk5, hk6⟩ := hM
  refine mm_cv.of okX8_loads rfl (Nat.le_of_ble_eq_true rfl) (lv := [(0, .ref m), (1, .int (nI l))]) rfl ?_
  have loop : ∀ (t i : Nat) (I1 : mm_I), i + t = n → I1 m 8 = nI n → (∀ k, k < i → I1 (m + 5) k = nI (w k)) → r_fr I I1 m → mm_Gv mX8_loads (fun J => rw_at J m n w ∧ r_fr I J m) 12 [(2, .int (nI i)), (0, .ref m), (1, .int (nI l))] [] S S I1 := by
    intro t
    induction t with
    | zero =>
      intro i I1 hi g1 g2 g3
      refine mm_iload_n dX8_loads_12 rfl rfl ?_
      refine mm_aload_n dX8_loads_13 rfl rfl ?_
      refine mm_getI dX8_loads_14 fl_X8_47 rfl (by assumption) ?_
      refine mm_tope (y := nI n) g1 ?_
      refine mm_icmp_ge 41 dX8_loads_17 (by decide) (fun c_17 => ?_) (fun c_17 => absurd (nI_le (by omega) (by omega)) c_17)
      refine mm_vret dX8_loads_41 rfl ?_
      exact ⟨rfl, rfl, ⟨g1, fun k hk => g2 k (by omega)⟩, g3⟩
    | succ t ih =>
      intro i I1 hi g1 g2 g3
      refine mm_iload_n dX8_loads_12 rfl rfl ?_
      refine mm_aload_n dX8_loads_13 rfl rfl ?_
      refine mm_getI dX8_loads_14 fl_X8_47 rfl (by assumption) ?_
      refine mm_tope (y := nI n) g1 ?_
      refine mm_icmp_ge 41 dX8_loads_17 (by decide) (fun c_17 => absurd c_17 (nI_ge (by omega) (by omega))) (fun c_17 => ?_)
      refine mm_aload_n dX8_loads_20 rfl rfl ?_
      refine mm_getR dX8_loads_21 fl_X8_22 rfl (by assumption) (by assumption) ?_
      refine mm_iload_n dX8_loads_24 rfl rfl ?_
      refine mm_aload_n dX8_loads_25 rfl rfl ?_
      refine mm_iload_n dX8_loads_26 rfl rfl ?_
      refine mm_bipush 8 dX8_loads_27 rfl ?_
      refine mm_iload_n dX8_loads_29 rfl rfl ?_
      refine mm_iadd dX8_loads_30 ?_
      refine mm_tope (y := nI (8 + i)) (nI_add 8 i) ?_
      refine mm_Vi (N := mX8_of) (ci := 8) (as := [_, _]) dX8_loads_31 lk_X8_36 okX8_of (by decide) rfl (by decide) rfl (by assumption) rfl (by first | decide | (simp [Value.category])) (r_of hM0 hl (by omega)) (fun r1 J1 hq => ?_)
      obtain ⟨rfl, hJ⟩ := hq
      subst J1
      rw [show 9 + 20 * l + (8 + i) = 17 + 20 * l + i by omega, g3.s, hw i (by omega)]
      refine mm_iast dX8_loads_34 (by assumption) (vp_in_nI (by omega) (by omega)) ?_
      rw [nI_clamp (by omega)]
      refine mm_iinc 1 dX8_loads_35 rfl rfl (Nat.le_of_ble_eq_true rfl) ?_
      rw [nI_1]
      refine mm_goto 12 dX8_loads_38 (by decide) ?_
      exact mm_G.at (ih (i + 1) _ (by omega) (by rw [mm_wr_a (by omega)]; exact g1) (fun k hk => by
              by_cases e : k = i
              · subst e; exact mm_wr_s
              · rw [mm_wr_k e]; exact g2 k (by omega)) g3.w) (mm_s1 rfl (mm_s1 rfl (mm_s1 rfl mm_s0)))
  refine mm_aload_n dX8_loads_0 rfl rfl ?_
  refine mm_aload_n dX8_loads_1 rfl rfl ?_
  refine mm_iload_n dX8_loads_2 rfl rfl ?_
  refine mm_iconst 0 dX8_loads_3 rfl ?_
  refine mm_Vi (N := mX8_of) (ci := 8) (as := [_, _]) dX8_loads_4 lk_X8_36 okX8_of (by decide) rfl (by decide) rfl (by assumption) rfl (by first | decide | (simp [Value.category])) (r_of (f := 0) hM0 hl (by omega)) (fun r1 J1 hq => ?_)
  obtain ⟨rfl, hJ⟩ := hq
  subst J1
  rw [show 9 + 20 * l + 0 = 9 + 20 * l from rfl, h0]
  refine mm_putI dX8_loads_7 fl_X8_47 rfl rfl (by assumption) ?_
  refine mm_iconst 0 dX8_loads_10 rfl ?_
  refine mm_istore_n dX8_loads_11 rfl (Nat.le_of_ble_eq_true rfl) ?_
  exact mm_G.at (loop n 0 _ (by omega) mm_wr_s (fun k hk => absurd hk (Nat.not_lt_zero k)) r_fr.rf.b) (mm_s1 rfl (mm_s1 rfl (mm_s1 rfl mm_s0)))
def w_lay (s : Nat → Int32) (l n : Nat) (f : Nat → Int32) : Nat → Int32 := fun j => if j = 9 + 20 * l then nI n else if 17 + 20 * l ≤ j ∧ j < 17 + 20 * l + n then f (j - (17 + 20 * l)) else s j
set_option maxRecDepth 100000 in
set_option maxHeartbeats 4000000 in
theorem r_lays {S : mm_S} {I : mm_I} {m l n : Nat} (hM : mm_ref S m) (hl : l < 6) (h0 : I m 8 = nI n) (hn : n ≤ 12) : mm_cv mX8_lays [.ref m, .int (nI l)] S I (fun J => J (m + 1) = w_lay (I (m + 1)) l n (I (m + 5)) ∧ ∀ c, c ≠ m + 1 → J c = I c) := by
  obtain ⟨hk, hp0, hp1, hp2, hp5, hp7, hp15, hk1, hk2, hk3, hk4, hk5, hk6⟩ := hM
  refine mm_cv.of okX8_lays rfl (Nat.le_of_ble_eq_true rfl) (lv := [(0, .ref m), (1, .int (nI l))]) rfl ?_
  have loop : ∀ (t i : Nat) (I1 : mm_I), i + t = n → (∀ j, I1 (m + 1) j = if j = 9 + 20 * l then nI n else if 17 + 20 * l ≤ j ∧ j < 17 + 20 * l + i then I (m + 5) (j - (17 + 20 * l)) else I (m + 1) j) → (∀ c, c ≠ m + 1 → I1 c = I c) → mm_Gv mX8_lays (fun J => J (m + 1) = w_lay (I (m + 1)) l n (I (m + 5)) ∧ ∀ c, c ≠ m + 1 → J c = I c) 20 [(2, .int (nI i)), (0, .ref m), (1, .int (nI l))] [] S S I1 := by
    intro t
    induction t with
    | zero =>
      intro i I1 hi g1 g2
      have hin : i = n := by omega
      subst hin
      have g0 : I1 m 8 = nI i := by rw [g2 m (by omega)]; exact h0
      refine mm_iload_n dX8_lays_20 rfl rfl ?_
      refine mm_aload_n dX8_lays_21 rfl rfl ?_
      refine mm_getI dX8_lays_22 fl_X8_47 rfl (by assumption) ?_
      refine mm_tope (y := nI i) g0 ?_
      refine mm_icmp_ge 57 dX8_lays_25 (by decide) (fun c_25 => ?_) (fun c_25 => absurd (nI_le (by omega) (by omega)) c_25)
      refine mm_vret dX8_lays_57 rfl ?_
      exact ⟨rfl, rfl, funext g1, g2⟩
    | succ t ih =>
      intro i I1 hi g1 g2
      have g0 : I1 m 8 = nI n := by rw [g2 m (by omega)]; exact h0
      refine mm_iload_n dX8_lays_20 rfl rfl ?_
      refine mm_aload_n dX8_lays_21 rfl rfl ?_
      refine mm_getI dX8_lays_22 fl_X8_47 rfl (by assumption) ?_
      refine mm_tope (y := nI n) g0 ?_
      refine mm_icmp_ge 57 dX8_lays_25 (by decide) (fun c_25 => absurd c_25 (nI_ge (by omega) (by omega))) (fun c_25 => ?_)
      refine mm_aload_n dX8_lays_28 rfl rfl ?_
      refine mm_getR dX8_lays_29 fl_X8_7 rfl (by assumption) (by assumption) ?_
      refine mm_bipush 9 dX8_lays_32 rfl ?_
      refine mm_bipush 20 dX8_lays_34 rfl ?_
      refine mm_iload_n dX8_lays_36 rfl rfl ?_
      refine mm_imul dX8_lays_37 ?_
      refine mm_tope (y := nI (20 * l)) (pk_mul 20 l) ?_
      refine mm_iadd dX8_lays_38 ?_
      refine mm_tope (y := nI (9 + 20 * l)) (nI_add 9 _) ?_
      refine mm_bipush 8 dX8_lays_39 rfl ?_
      refine mm_iadd dX8_lays_41 ?_
      refine mm_tope (y := nI (9 + 20 * l + 8)) (nI_add _ 8) ?_
      refine mm_iload_n dX8_lays_42 rfl rfl ?_
      refine mm_iadd dX8_lays_43 ?_
      refine mm_tope (y := nI (9 + 20 * l + 8 + i)) (nI_add _ _) ?_
      refine mm_aload_n dX8_lays_44 rfl rfl ?_
      refine mm_getR dX8_lays_45 fl_X8_22 rfl (by assumption) (by assumption) ?_
      refine mm_iload_n dX8_lays_48 rfl rfl ?_
      refine mm_iald dX8_lays_49 (by assumption) (vp_in_nI (n := i) (by omega) (by omega)) ?_
      rw [nI_clamp (by omega), g2 (m + 5) (by omega)]
      refine mm_iast dX8_lays_50 (by assumption) (vp_in_nI (n := 9 + 20 * l + 8 + i) (by omega) (by omega)) ?_
      rw [nI_clamp (by omega)]
      refine mm_iinc 1 dX8_lays_51 rfl rfl (Nat.le_of_ble_eq_true rfl) ?_
      rw [nI_1]
      refine mm_goto 20 dX8_lays_54 (by decide) ?_
      exact mm_G.at (ih (i + 1) _ (by omega) (fun j => by
              by_cases e : j = 9 + 20 * l + 8 + i
              · subst e
                rw [mm_wr_s, if_neg (by omega), if_pos (by omega), show 9 + 20 * l + 8 + i - (17 + 20 * l) = i by omega]
              · rw [mm_wr_k e, g1 j]
                by_cases e2 : j = 9 + 20 * l
                · rw [if_pos e2, if_pos e2]
                · rw [if_neg e2, if_neg e2]
                  by_cases e3 : 17 + 20 * l ≤ j ∧ j < 17 + 20 * l + i
                  · rw [if_pos e3, if_pos (by omega)]
                  · rw [if_neg e3, if_neg (by omega)]) (fun c hc => by rw [mm_wr_row hc]; exact g2 c hc)) (mm_s1 rfl (mm_s1 rfl (mm_s1 rfl mm_s0)))
  refine mm_aload_n dX8_lays_0 rfl rfl ?_
  refine mm_getR dX8_lays_1 fl_X8_7 rfl (by assumption) (by assumption) ?_
  refine mm_bipush 9 dX8_lays_4 rfl ?_
  refine mm_bipush 20 dX8_lays_6 rfl ?_
  refine mm_iload_n dX8_lays_8 rfl rfl ?_
  refine mm_imul dX8_lays_9 ?_
  refine mm_tope (y := nI (20 * l)) (pk_mul 20 l) ?_
  refine mm_iadd dX8_lays_10 ?_
  refine mm_tope (y := nI (9 + 20 * l)) (nI_add 9 _) ?_
  refine mm_iconst 0 dX8_lays_11 rfl ?_
  refine mm_iadd dX8_lays_12 ?_
  refine mm_tope (y := nI (9 + 20 * l)) (nI_add (9 + 20 * l) 0) ?_
  refine mm_aload_n dX8_lays_13 rfl rfl ?_
  refine mm_getI dX8_lays_14 fl_X8_47 rfl (by assumption) ?_
  refine mm_tope (y := nI n) h0 ?_
  refine mm_iast dX8_lays_17 (by assumption) (vp_in_nI (n := 9 + 20 * l) (by omega) (by omega)) ?_
  rw [nI_clamp (by omega)]
  refine mm_iconst 0 dX8_lays_18 rfl ?_
  refine mm_istore_n dX8_lays_19 rfl (Nat.le_of_ble_eq_true rfl) ?_
  exact mm_G.at (loop n 0 _ (by omega) (fun j => by
          by_cases e : j = 9 + 20 * l
          · subst e; rw [mm_wr_s, if_pos rfl]
          · rw [mm_wr_k e, if_neg e, if_neg (by omega)]) (fun c hc => mm_wr_row hc)) (mm_s1 rfl (mm_s1 rfl (mm_s1 rfl mm_s0)))
set_option maxRecDepth 100000 in
set_option maxHeartbeats 4000000 in
theorem r_all {S : mm_S} {I : mm_I} {m n : Nat} {w : Nat → Nat} (hM : mm_ref S m) (hw : rw_at I m n w) (hn : n ≤ 12) : mm_ci mX8_all [.ref m] S I (fun q J => q = nI (ws_sum w n) ∧ J = I) := by
  obtain ⟨hk, hp0, hp1, hp2, hp5, hp7, hp15, hk1, hk2, hk3, hk4, hk5, hk6⟩ := hM
  obtain ⟨g1, g2⟩ := id hw
  refine mm_ci.of okX8_all rfl (Nat.le_of_ble_eq_true rfl) (lv := [(0, .ref m)]) rfl ?_
  have loop : ∀ (t i : Nat), i + t = n → mm_Gi mX8_all (fun q J => q = nI (ws_sum w n) ∧ J = I) 4 [(2, .int (nI i)), (1, .int (nI (ws_sum w i))), (0, .ref m)] [] S S I := by
    intro t
    induction t with
    | zero =>
      intro i hi
      refine mm_iload_n dX8_all_4 rfl rfl ?_
      refine mm_aload_n dX8_all_5 rfl rfl ?_
      refine mm_getI dX8_all_6 fl_X8_47 rfl (by assumption) ?_
      refine mm_tope (y := nI n) g1 ?_
      refine mm_icmp_ge 27 dX8_all_9 (by decide) (fun c_9 => ?_) (fun c_9 => absurd (nI_le (by omega) (by omega)) c_9)
      refine mm_iload_n dX8_all_27 rfl rfl ?_
      refine mm_iret dX8_all_28 rfl ?_
      exact ⟨rfl, _, rfl, by rw [show i = n by omega], rfl⟩
    | succ t ih =>
      intro i hi
      refine mm_iload_n dX8_all_4 rfl rfl ?_
      refine mm_aload_n dX8_all_5 rfl rfl ?_
      refine mm_getI dX8_all_6 fl_X8_47 rfl (by assumption) ?_
      refine mm_tope (y := nI n) g1 ?_
      refine mm_icmp_ge 27 dX8_all_9 (by decide) (fun c_9 => absurd c_9 (nI_ge (by omega) (by omega))) (fun c_9 => ?_)
      refine mm_iload_n dX8_all_12 rfl rfl ?_
      refine mm_aload_n dX8_all_13 rfl rfl ?_
      refine mm_getR dX8_all_14 fl_X8_22 rfl (by assumption) (by assumption) ?_
      refine mm_iload_n dX8_all_17 rfl rfl ?_
      refine mm_iald dX8_all_18 (by assumption) (vp_in_nI (by omega) (by omega)) ?_
      rw [nI_clamp (by omega), g2 i (by omega)]
      refine mm_iadd dX8_all_19 ?_
      refine mm_tope (y := nI (ws_sum w (i + 1))) (nI_add _ _) ?_
      refine mm_istore_n dX8_all_20 rfl (Nat.le_of_ble_eq_true rfl) ?_
      refine mm_iinc 1 dX8_all_21 rfl rfl (Nat.le_of_ble_eq_true rfl) ?_
      rw [nI_1]
      refine mm_goto 4 dX8_all_24 (by decide) ?_
      exact mm_G.at (ih (i + 1) (by omega)) (mm_s1 rfl (mm_s1 rfl (mm_s1 rfl mm_s0)))
  refine mm_iconst 0 dX8_all_0 rfl ?_
  refine mm_istore_n dX8_all_1 rfl (Nat.le_of_ble_eq_true rfl) ?_
  refine mm_iconst 0 dX8_all_2 rfl ?_
  refine mm_istore_n dX8_all_3 rfl (Nat.le_of_ble_eq_true rfl) ?_
  exact mm_G.at (loop n 0 (by omega)) (mm_s1 rfl (mm_s1 rfl (mm_s1 rfl mm_s0)))
set_option maxRecDepth 100000 in
set_option maxHeartbeats 4000000 in
theorem r_leaves {S : mm_S} {I : mm_I} {m n : Nat} {w : Nat → Nat} (hM : mm_ref S m) (hw : rw_at I m n w) (hn : n ≤ 12) (hb : ∀ k, k < n → w k ≤ 2250) : mm_cv mX8_leaves [.ref m] S I (fun J => rw_at J m (lvN w n) (lvF w n) ∧ r_fr I J m) := by
  obtain ⟨hk, hp0, hp1, hp2, hp5, hp7, hp15, hk1, hk2, hk3, hk4, hk5, hk6⟩ := hM
  obtain ⟨g1, g2⟩ := id hw
  refine mm_cv.of okX8_leaves rfl (Nat.le_of_ble_eq_true rfl) (lv := [(0, .ref m)]) rfl ?_
  have loop : ∀ (t i : Nat) (I1 : mm_I), i + t = n → I1 m 8 = nI n → (∀ k, k < lvN w i → I1 (m + 5) k = nI (lvF w i k)) → (∀ k, i ≤ k → k < n → I1 (m + 5) k = nI (w k)) → r_fr I I1 m → mm_Gv mX8_leaves (fun J => rw_at J m (lvN w n) (lvF w n) ∧ r_fr I J m) 4 [(2, .int (nI i)), (1, .int (nI (lvN w i))), (0, .ref m)] [] S S I1 := by
    intro t
    induction t with
    | zero =>
      intro i I1 hi j1 j2 j3 j4
      have hin : i = n := by omega
      subst hin
      refine mm_iload_n dX8_leaves_4 rfl rfl ?_
      refine mm_aload_n dX8_leaves_5 rfl rfl ?_
      refine mm_getI dX8_leaves_6 fl_X8_47 rfl (by assumption) ?_
      refine mm_tope (y := nI i) j1 ?_
      refine mm_icmp_ge 47 dX8_leaves_9 (by decide) (fun c_9 => ?_) (fun c_9 => absurd (nI_le (by omega) (by omega)) c_9)
      refine mm_aload_n dX8_leaves_47 rfl rfl ?_
      refine mm_iload_n dX8_leaves_48 rfl rfl ?_
      refine mm_putI dX8_leaves_49 fl_X8_47 rfl rfl (by assumption) ?_
      refine mm_vret dX8_leaves_52 rfl ?_
      exact ⟨rfl, rfl, ⟨mm_wr_s, fun k hk => by rw [mm_wr_a (by omega)]; exact j2 k hk⟩, j4.b⟩
    | succ t ih =>
      intro i I1 hi j1 j2 j3 j4
      have hle := lvN_le (w := w) i
      have hbi := hb i (by omega)
      have hin1 : vp_in (nI (lvN w i)) 12 := vp_in_nI (by omega) (by omega)
      have hin2 : vp_in (nI i) 12 := vp_in_nI (by omega) (by omega)
      refine mm_iload_n dX8_leaves_4 rfl rfl ?_
      refine mm_aload_n dX8_leaves_5 rfl rfl ?_
      refine mm_getI dX8_leaves_6 fl_X8_47 rfl (by assumption) ?_
      refine mm_tope (y := nI n) j1 ?_
      refine mm_icmp_ge 47 dX8_leaves_9 (by decide) (fun c_9 => absurd c_9 (nI_ge (by omega) (by omega))) (fun c_9 => ?_)
      refine mm_aload_n dX8_leaves_12 rfl rfl ?_
      refine mm_getR dX8_leaves_13 fl_X8_22 rfl (by assumption) (by assumption) ?_
      refine mm_iload_n dX8_leaves_16 rfl rfl ?_
      refine mm_aload_n dX8_leaves_17 rfl rfl ?_
      refine mm_getR dX8_leaves_18 fl_X8_22 rfl (by assumption) (by assumption) ?_
      refine mm_iload_n dX8_leaves_21 rfl rfl ?_
      refine mm_iald dX8_leaves_22 (by assumption) (by assumption) ?_
      rw [nI_clamp (by omega), j3 i (Nat.le_refl i) (by omega)]
      refine mm_iast dX8_leaves_23 (by assumption) (by assumption) ?_
      rw [nI_clamp (by omega)]
      refine mm_G.gen (P := fun J => J m 8 = nI n ∧ (∀ k, k < lvN w i → J (m + 5) k = nI (lvF w i k)) ∧ J (m + 5) (lvN w i) = nI (w i) ∧ J (m + 5) i = nI (w i) ∧ (∀ k, i + 1 ≤ k → k < n → J (m + 5) k = nI (w k)) ∧ r_fr I J m) ⟨by rw [mm_wr_a (by omega)]; exact j1, fun k hk => by rw [mm_wr_k (by omega)]; exact j2 k hk, mm_wr_s, by
          by_cases e : i = lvN w i
          · rw [← e]; exact mm_wr_s
          · rw [mm_wr_k e]; exact j3 i (Nat.le_refl i) (by omega), fun k h1 h2 => by rw [mm_wr_k (by omega)]; exact j3 k (by omega) h2, j4.w⟩ (fun J1 hJ => ?_)
      obtain ⟨k1, k2, k3, k3', k4, k5⟩ := hJ
      refine mm_iload_n dX8_leaves_24 rfl rfl ?_
      refine mm_aload_n dX8_leaves_25 rfl rfl ?_
      refine mm_getR dX8_leaves_26 fl_X8_22 rfl (by assumption) (by assumption) ?_
      refine mm_iload_n dX8_leaves_29 rfl rfl ?_
      refine mm_iald dX8_leaves_30 (by assumption) (by assumption) ?_
      rw [nI_clamp (by omega), k3']
      refine mm_if_le 38 dX8_leaves_31 (by decide) (fun c_31 => ?_) (fun c_31 => ?_)
      · skip
        have hz : ¬ 0 < w i := fun q => absurd c_31 (fun z => nI_nle q (by omega) z)
        have e1 : lvN w (i + 1) = lvN w i := if_neg hz
        have e2 : ∀ k, lvF w (i + 1) k = lvF w i k := fun k => if_neg (fun q => hz q.1)
        refine mm_iconst 0 dX8_leaves_38 rfl ?_
        refine mm_iadd dX8_leaves_39 ?_
        refine mm_tope (y := nI (lvN w (i + 1))) (by first | (rw [e1]; exact nI_add _ 1) | (rw [e1]; exact nI_add _ 0)) ?_
        refine mm_istore_n dX8_leaves_40 rfl (Nat.le_of_ble_eq_true rfl) ?_
        refine mm_iinc 1 dX8_leaves_41 rfl rfl (Nat.le_of_ble_eq_true rfl) ?_
        rw [nI_1]
        refine mm_goto 4 dX8_leaves_44 (by decide) ?_
        first
          | exact mm_G.at (ih (i + 1) _ (by omega) k1 (fun k hk => by rw [e2 k]; exact k2 k (by omega)) k4 k5) (mm_s1 rfl (mm_s1 rfl (mm_s1 rfl mm_s0)))
          | exact mm_G.at (ih (i + 1) _ (by omega) k1 (fun k hk => by
              by_cases e : k = lvN w i
              · subst e; rw [e3]; exact k3
              · rw [e2 k (by omega)]; exact k2 k (by omega)) k4 k5) (mm_s1 rfl (mm_s1 rfl (mm_s1 rfl mm_s0)))
      · skip
        have hz : 0 < w i := by
          rcases Nat.eq_zero_or_pos (w i) with e | e
          · exact absurd (by rw [e]; decide) c_31
          · exact e
        have e1 : lvN w (i + 1) = lvN w i + 1 := if_pos hz
        have e2 : ∀ k, k < lvN w i → lvF w (i + 1) k = lvF w i k := fun k hk => if_neg (fun q => by omega)
        have e3 : lvF w (i + 1) (lvN w i) = w i := if_pos ⟨hz, rfl⟩
        refine mm_iconst 1 dX8_leaves_34 rfl ?_
        refine mm_goto 39 dX8_leaves_35 (by decide) ?_
        refine mm_iadd dX8_leaves_39 ?_
        refine mm_tope (y := nI (lvN w (i + 1))) (by first | (rw [e1]; exact nI_add _ 1) | (rw [e1]; exact nI_add _ 0)) ?_
        refine mm_istore_n dX8_leaves_40 rfl (Nat.le_of_ble_eq_true rfl) ?_
        refine mm_iinc 1 dX8_leaves_41 rfl rfl (Nat.le_of_ble_eq_true rfl) ?_
        rw [nI_1]
        refine mm_goto 4 dX8_leaves_44 (by decide) ?_
        first
          | exact mm_G.at (ih (i + 1) _ (by omega) k1 (fun k hk => by rw [e2 k]; exact k2 k (by omega)) k4 k5) (mm_s1 rfl (mm_s1 rfl (mm_s1 rfl mm_s0)))
          | exact mm_G.at (ih (i + 1) _ (by omega) k1 (fun k hk => by
              by_cases e : k = lvN w i
              · subst e; rw [e3]; exact k3
              · rw [e2 k (by omega)]; exact k2 k (by omega)) k4 k5) (mm_s1 rfl (mm_s1 rfl (mm_s1 rfl mm_s0)))
  refine mm_iconst 0 dX8_leaves_0 rfl ?_
  refine mm_istore_n dX8_leaves_1 rfl (Nat.le_of_ble_eq_true rfl) ?_
  refine mm_iconst 0 dX8_leaves_2 rfl ?_
  refine mm_istore_n dX8_leaves_3 rfl (Nat.le_of_ble_eq_true rfl) ?_
  exact mm_G.at (loop n 0 I (by omega) g1 (fun k hk => absurd hk (Nat.not_lt_zero k)) (fun k _ hk => g2 k hk) r_fr.rf) (mm_s1 rfl (mm_s1 rfl (mm_s1 rfl mm_s0)))
