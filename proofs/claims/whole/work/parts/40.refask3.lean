/-! THE REFERENCE'S QUESTIONS: the mean price, the counts; undo and the text -/
def fl_ok (v : UInt32) : Prop := vf_n32 v ∧ FP.fcmp v v = some .eq
def flV (p h : Nat) : UInt32 := FP.fdiv (FP.i2f (nI p)) (FP.i2f (nI h))
def flH : Prop := ∀ p h, p ≤ 299700 → 0 < h → h ≤ 300 → fl_ok (flV p h)
theorem j_isNaN {S : mm_S} {I : mm_I} {v : UInt32} (hv : FP.fcmp v v = some .eq) : mm_ci mJxf58ca_isNaN_12338 [.float v] S I (fun q J => q = 0 ∧ J = I) := by
  refine mm_ci.of okJxf58ca_isNaN_12338 rfl (Nat.le_of_ble_eq_true rfl) (lv := [(0, .float v)]) rfl ?_
  refine mm_fload_n dJxf58ca_isNaN_12338_0 rfl rfl ?_
  refine mm_fload_n dJxf58ca_isNaN_12338_1 rfl rfl ?_
  refine mm_fcmp dJxf58ca_isNaN_12338_2 ?_
  rw [hv]
  refine mm_if_eq 10 dJxf58ca_isNaN_12338_3 (by decide) (fun c_3 => ?_) (fun c_3 => absurd rfl c_3)
  refine mm_iconst 0 dJxf58ca_isNaN_12338_10 rfl ?_
  refine mm_zret dJxf58ca_isNaN_12338_11 rfl (Or.inl rfl) ?_
  exact ⟨rfl, _, rfl, rfl, rfl⟩
theorem j_floatToIntBits {S : mm_S} {I : mm_I} {v : UInt32} (hv : FP.fcmp v v = some .eq) : mm_ci mJxf58ca_floatToIntBits_5c35a [.float v] S I (fun q J => q = v.toInt32 ∧ J = I) := by
  refine mm_ci.of okJxf58ca_floatToIntBits_5c35a rfl (Nat.le_of_ble_eq_true rfl) (lv := [(0, .float v)]) rfl ?_
  refine mm_fload_n dJxf58ca_floatToIntBits_5c35a_0 rfl rfl ?_
  refine mm_Si (N := mJxf58ca_isNaN_12338) (as := [_]) dJxf58ca_floatToIntBits_5c35a_1 lk_Jxf58ca_59 okJxf58ca_isNaN_12338 (by decide) rfl rfl (by decide) (j_isNaN hv) (fun r1 J1 hq => ?_)
  obtain ⟨rfl, hJ⟩ := hq
  subst J1
  refine mm_if_ne 12 dJxf58ca_floatToIntBits_5c35a_4 (by decide) (fun c_4 => absurd rfl c_4) (fun c_4 => ?_)
  refine mm_fload_n dJxf58ca_floatToIntBits_5c35a_7 rfl rfl ?_
  refine mm_f2raw dJxf58ca_floatToIntBits_5c35a_8 lk_Jxf58ca_74 raw_nat raw_st ini_Jxf58ca (by decide) (by decide) ?_
  refine mm_iret dJxf58ca_floatToIntBits_5c35a_11 rfl ?_
  exact ⟨rfl, _, rfl, rfl, rfl⟩
def sp_mean (s : Nat → Int32) (b l : Nat) : Int32 := if sv s (136 + 18 * b + 3 * l) = 0 then -2000000004 else (flV (sv s (137 + 18 * b + 3 * l)) (sv s (136 + 18 * b + 3 * l))).toInt32
def sq_holding (s : Nat → Int32) (b l f : Int32) : Int32 := if ¬ ((0 ≤ b ∧ b < s 1) ∧ (0 ≤ l ∧ l < s 0) ∧ (0 ≤ f ∧ f ≤ 3)) then -2000000001 else if f.toNatClampNeg < 3 then s (136 + 18 * b.toNatClampNeg + 3 * l.toNatClampNeg + f.toNatClampNeg) else sp_mean s b.toNatClampNeg l.toNatClampNeg

set_option maxRecDepth 100000 in
set_option maxHeartbeats 4000000 in
theorem r_mean {S : mm_S} {I : mm_I} {m b l : Nat} (hF : flH) (hM : mm_ref S m) (hi : Inv (I (m + 1))) (hb : b < 6) (hl : l < 6) : mm_ci mX8_mean [.ref m, .int (nI b), .int (nI l)] S I (fun q J => q = sp_mean (I (m + 1)) b l ∧ J = I) := by
  have hM0 := hM
  obtain ⟨hk, hp0, hp1, hp2, hp5, hp7, hp15, hk1, hk2, hk3, hk4, hk5, hk6⟩ := hM
  have hx : ∀ n, n < 316 → vp_in (nI n) 316 := fun n h => vp_in_nI h (by omega)
  have eh := inv_h hi hl hb
  refine mm_ci.of okX8_mean rfl (Nat.le_of_ble_eq_true rfl) (lv := [(0, .ref m), (1, .int (nI b)), (2, .int (nI l))]) rfl ?_
  rcases Nat.eq_zero_or_pos (sv (I (m + 1)) (136 + 18 * b + 3 * l)) with h0 | h0
  · skip
    refine mm_aload_n dX8_mean_0 rfl rfl ?_
    refine mm_iload_n dX8_mean_1 rfl rfl ?_
    refine mm_iload_n dX8_mean_2 rfl rfl ?_
    refine mm_Vi (N := mX8_holds) (ci := 8) (as := [_, _]) dX8_mean_3 lk_X8_44 okX8_holds (by decide) rfl (by decide) rfl (by assumption) rfl (by decide) (r_holds hM0 hb hl) (fun r1 J1 hq => ?_)
    obtain ⟨rfl, hJ⟩ := hq
    subst J1
    rw [eh.1]
    refine mm_istore_n dX8_mean_6 rfl (Nat.le_of_ble_eq_true rfl) ?_
    refine mm_aload_n dX8_mean_7 rfl rfl ?_
    refine mm_getR dX8_mean_8 fl_X8_7 rfl (by assumption) (by assumption) ?_
    refine mm_iload_n dX8_mean_11 rfl rfl ?_
    refine mm_iload_n dX8_mean_12 rfl rfl ?_
    refine mm_iconst 1 dX8_mean_13 rfl ?_
    refine mm_Si (N := mX8_hold) (as := [_, _, _]) dX8_mean_14 lk_X8_40 okX8_hold (by decide) rfl rfl (by first | decide | (simp [Value.category])) (r_hold (f := 1)) (fun r2 J1 hq => ?_)
    obtain ⟨rfl, hJ⟩ := hq
    subst J1
    refine mm_iald dX8_mean_17 (by assumption) (hx (136 + 18 * b + 3 * l + 1) (by omega)) ?_
    refine mm_tope (y := nI (sv (I (m + 1)) (137 + 18 * b + 3 * l))) (by rw [nI_clamp (by omega), show 136 + 18 * b + 3 * l + 1 = 137 + 18 * b + 3 * l by omega]; exact eh.2.2.1) ?_
    refine mm_i2f dX8_mean_18 ?_
    refine mm_iload_n dX8_mean_19 rfl rfl ?_
    refine mm_if_ne 27 dX8_mean_20 (by decide) (fun c_20 => absurd (by rw [h0]; rfl) c_20) (fun c_20 => ?_)
    refine mm_iconst 1 dX8_mean_23 rfl ?_
    refine mm_goto 28 dX8_mean_24 (by decide) ?_
    refine mm_i2f dX8_mean_28 ?_
    refine mm_fdiv dX8_mean_29 (hF _ 1 eh.2.2.2 (by omega) (by omega)).1 ?_
    refine mm_fstore dX8_mean_30 (Nat.le_of_ble_eq_true rfl) ?_
    refine mm_iload_n dX8_mean_32 rfl rfl ?_
    refine mm_if_ne 41 dX8_mean_33 (by decide) (fun c_33 => absurd (by rw [h0]; rfl) c_33) (fun c_33 => ?_)
    refine mm_ldc dX8_mean_36 ct_X8_57 ?_
    refine mm_goto 46 dX8_mean_38 (by decide) ?_
    refine mm_iret dX8_mean_46 rfl ?_
    exact ⟨rfl, _, rfl, (if_pos h0).symm, rfl⟩
  · skip
    refine mm_aload_n dX8_mean_0 rfl rfl ?_
    refine mm_iload_n dX8_mean_1 rfl rfl ?_
    refine mm_iload_n dX8_mean_2 rfl rfl ?_
    refine mm_Vi (N := mX8_holds) (ci := 8) (as := [_, _]) dX8_mean_3 lk_X8_44 okX8_holds (by decide) rfl (by decide) rfl (by assumption) rfl (by decide) (r_holds hM0 hb hl) (fun r1 J1 hq => ?_)
    obtain ⟨rfl, hJ⟩ := hq
    subst J1
    rw [eh.1]
    refine mm_istore_n dX8_mean_6 rfl (Nat.le_of_ble_eq_true rfl) ?_
    refine mm_aload_n dX8_mean_7 rfl rfl ?_
    refine mm_getR dX8_mean_8 fl_X8_7 rfl (by assumption) (by assumption) ?_
    refine mm_iload_n dX8_mean_11 rfl rfl ?_
    refine mm_iload_n dX8_mean_12 rfl rfl ?_
    refine mm_iconst 1 dX8_mean_13 rfl ?_
    refine mm_Si (N := mX8_hold) (as := [_, _, _]) dX8_mean_14 lk_X8_40 okX8_hold (by decide) rfl rfl (by first | decide | (simp [Value.category])) (r_hold (f := 1)) (fun r2 J1 hq => ?_)
    obtain ⟨rfl, hJ⟩ := hq
    subst J1
    refine mm_iald dX8_mean_17 (by assumption) (hx (136 + 18 * b + 3 * l + 1) (by omega)) ?_
    refine mm_tope (y := nI (sv (I (m + 1)) (137 + 18 * b + 3 * l))) (by rw [nI_clamp (by omega), show 136 + 18 * b + 3 * l + 1 = 137 + 18 * b + 3 * l by omega]; exact eh.2.2.1) ?_
    refine mm_i2f dX8_mean_18 ?_
    refine mm_iload_n dX8_mean_19 rfl rfl ?_
    refine mm_if_ne 27 dX8_mean_20 (by decide) (fun c_20 => ?_) (fun c_20 => absurd c_20 (nI_ne0 h0 (by omega)))
    refine mm_iload_n dX8_mean_27 rfl rfl ?_
    refine mm_i2f dX8_mean_28 ?_
    refine mm_fdiv dX8_mean_29 (hF _ _ eh.2.2.2 h0 eh.2.1).1 ?_
    refine mm_fstore dX8_mean_30 (Nat.le_of_ble_eq_true rfl) ?_
    refine mm_iload_n dX8_mean_32 rfl rfl ?_
    refine mm_if_ne 41 dX8_mean_33 (by decide) (fun c_33 => ?_) (fun c_33 => absurd c_33 (nI_ne0 h0 (by omega)))
    refine mm_fload dX8_mean_41 rfl ?_
    refine mm_Si (N := mJxf58ca_floatToIntBits_5c35a) (as := [_]) dX8_mean_43 lk_X8_132 okJxf58ca_floatToIntBits_5c35a (by decide) rfl rfl (by decide) (j_floatToIntBits (hF _ _ eh.2.2.2 h0 eh.2.1).2) (fun r3 J1 hq => ?_)
    obtain ⟨rfl, hJ⟩ := hq
    subst J1
    refine mm_iret dX8_mean_46 rfl ?_
    exact ⟨rfl, _, rfl, (if_neg (Nat.ne_of_gt h0)).symm, rfl⟩
set_option maxRecDepth 100000 in
set_option maxHeartbeats 4000000 in
theorem r_holding {S : mm_S} {I : mm_I} {m : Nat} {b l f : Int32} (hF : flH) (hM : mm_ref S m) (hi : Inv (I (m + 1))) : mm_ci mX8_holding [.ref m, .int b, .int l, .int f] S I (fun q J => q = sq_holding (I (m + 1)) b l f ∧ r_fr I J m) := by
  have hM0 := hM
  obtain ⟨hk, hp0, hp1, hp2, hp5, hp7, hp15, hk1, hk2, hk3, hk4, hk5, hk6⟩ := hM
  have hx : ∀ n, n < 316 → vp_in (nI n) 316 := fun n h => vp_in_nI h (by omega)
  refine mm_ci.of okX8_holding rfl (Nat.le_of_ble_eq_true rfl) (lv := [(0, .ref m), (1, .int b), (2, .int l), (3, .int f)]) rfl ?_
  refine mm_aload_n dX8_holding_0 rfl rfl ?_
  refine mm_iload_n dX8_holding_1 rfl rfl ?_
  refine mm_Vi (N := mX8_isBuyer) (ci := 8) (as := [_]) dX8_holding_2 lk_X8_118 okX8_isBuyer (by decide) rfl (by decide) rfl (by assumption) rfl (by decide) (r_isBuyer hM0) (fun r1 J1 hq => ?_)
  obtain ⟨rfl, hJ⟩ := hq
  subst J1
  refine mm_if_eq 25 dX8_holding_5 (by decide) (fun c_5 => ?_) (fun c_5 => ?_)
  · skip
    have n1 := if_no c_5
    refine mm_ldc dX8_holding_25 ct_X8_76 ?_
    refine mm_iret dX8_holding_27 rfl ?_
    first
      | exact ⟨rfl, _, rfl, (if_pos (fun q => n1 q.1)).symm, r_fr.rf⟩
      | exact ⟨rfl, _, rfl, (if_pos (fun q => n2 q.2.1)).symm, r_fr.rf⟩
      | exact ⟨rfl, _, rfl, (if_pos (fun q => n3 q.2.2)).symm, r_fr.rf⟩
  · skip
    have y1 := if_yes c_5
    obtain ⟨B, hBn, hB6, rfl, hBc⟩ := inv_b hi y1
    refine mm_aload_n dX8_holding_8 rfl rfl ?_
    refine mm_iload_n dX8_holding_9 rfl rfl ?_
    refine mm_Vi (N := mX8_isLot) (ci := 8) (as := [_]) dX8_holding_10 lk_X8_81 okX8_isLot (by decide) rfl (by decide) rfl (by assumption) rfl (by decide) (r_isLot hM0) (fun r1 J1 hq => ?_)
    obtain ⟨rfl, hJ⟩ := hq
    subst J1
    refine mm_if_eq 25 dX8_holding_13 (by decide) (fun c_13 => ?_) (fun c_13 => ?_)
    · skip
      have n2 := if_no c_13
      refine mm_ldc dX8_holding_25 ct_X8_76 ?_
      refine mm_iret dX8_holding_27 rfl ?_
      first
        | exact ⟨rfl, _, rfl, (if_pos (fun q => n1 q.1)).symm, r_fr.rf⟩
        | exact ⟨rfl, _, rfl, (if_pos (fun q => n2 q.2.1)).symm, r_fr.rf⟩
        | exact ⟨rfl, _, rfl, (if_pos (fun q => n3 q.2.2)).symm, r_fr.rf⟩
    · skip
      have y2 := if_yes c_13
      obtain ⟨L, hLn, hL6, rfl, hLc⟩ := inv_l hi y2
      refine mm_iload_n dX8_holding_16 rfl rfl ?_
      refine mm_iconst 0 dX8_holding_17 rfl ?_
      refine mm_iconst 3 dX8_holding_18 rfl ?_
      refine mm_Si (N := mX8_in) (as := [_, _, _]) dX8_holding_19 lk_X8_72 okX8_in (by decide) rfl rfl (by decide) r_in (fun r1 J1 hq => ?_)
      obtain ⟨rfl, hJ⟩ := hq
      subst J1
      refine mm_if_ne 28 dX8_holding_22 (by decide) (fun c_22 => ?_) (fun c_22 => ?_)
      · skip
        have y3 := if_yes c_22
        obtain ⟨F, hF3, rfl, hFc⟩ := int_n (n := 3) rfl (by omega) y3
        have hsp : sq_holding (I (m + 1)) (nI B) (nI L) (nI F) = if F < 3 then I (m + 1) (136 + 18 * B + 3 * L + F) else sp_mean (I (m + 1)) B L := by
          unfold sq_holding
          rw [if_neg (fun q => q ⟨y1, y2, y3⟩), hLc, hBc, hFc]
        refine mm_iload_n dX8_holding_28 rfl rfl ?_
        refine mm_iconst 3 dX8_holding_29 rfl ?_
        refine mm_icmp_ge 47 dX8_holding_30 (by decide) (fun c_30 => ?_) (fun c_30 => ?_)
        · skip
          have hge : ¬ F < 3 := fun q => absurd c_30 (nI_ge (b := 3) q (by omega))
          rw [if_neg hge] at hsp
          refine mm_aload_n dX8_holding_47 rfl rfl ?_
          refine mm_iload_n dX8_holding_48 rfl rfl ?_
          refine mm_iload_n dX8_holding_49 rfl rfl ?_
          refine mm_Vi (N := mX8_mean) (ci := 8) (as := [_, _]) dX8_holding_50 lk_X8_138 okX8_mean (by decide) rfl (by decide) rfl (by assumption) rfl (by decide) (r_mean hF hM0 hi hB6 hL6) (fun r2 J1 hq => ?_)
          obtain ⟨rfl, hJ⟩ := hq
          subst J1
          refine mm_iret dX8_holding_53 rfl ?_
          exact ⟨rfl, _, rfl, hsp.symm, r_fr.rf⟩
        · skip
          have hlt3 : F < 3 := Nat.not_le.mp fun q => c_30 (nI_le (a := 3) q (by omega))
          rw [if_pos hlt3] at hsp
          refine mm_aload_n dX8_holding_33 rfl rfl ?_
          refine mm_getR dX8_holding_34 fl_X8_7 rfl (by assumption) (by assumption) ?_
          refine mm_iload_n dX8_holding_37 rfl rfl ?_
          refine mm_iload_n dX8_holding_38 rfl rfl ?_
          refine mm_iload_n dX8_holding_39 rfl rfl ?_
          refine mm_Si (N := mX8_hold) (as := [_, _, _]) dX8_holding_40 lk_X8_40 okX8_hold (by decide) rfl rfl (by first | decide | (simp [Value.category])) r_hold (fun r2 J1 hq => ?_)
          obtain ⟨rfl, hJ⟩ := hq
          subst J1
          refine mm_iald dX8_holding_43 (by assumption) (hx (136 + 18 * B + 3 * L + F) (by omega)) ?_
          rw [nI_clamp (by omega)]
          refine mm_goto 53 dX8_holding_44 (by decide) ?_
          refine mm_iret dX8_holding_53 rfl ?_
          exact ⟨rfl, _, rfl, hsp.symm, r_fr.rf⟩
      · skip
        have n3 := if_no c_22
        refine mm_ldc dX8_holding_25 ct_X8_76 ?_
        refine mm_iret dX8_holding_27 rfl ?_
        first
          | exact ⟨rfl, _, rfl, (if_pos (fun q => n1 q.1)).symm, r_fr.rf⟩
          | exact ⟨rfl, _, rfl, (if_pos (fun q => n2 q.2.1)).symm, r_fr.rf⟩
          | exact ⟨rfl, _, rfl, (if_pos (fun q => n3 q.2.2)).symm, r_fr.rf⟩
set_option maxRecDepth 100000 in
set_option maxHeartbeats 4000000 in
theorem r_accounts {S : mm_S} {I : mm_I} {m : Nat} (hM : mm_ref S m) : mm_ci mX8_accounts [.ref m] S I (fun q J => q = is_sum (fun k => I (m + 1) (129 + k)) 7 ∧ J = I) := by
  obtain ⟨hk, hp0, hp1, hp2, hp5, hp7, hp15, hk1, hk2, hk3, hk4, hk5, hk6⟩ := hM
  have hx : ∀ n, n < 316 → vp_in (nI n) 316 := fun n h => vp_in_nI h (by omega)
  refine mm_ci.of okX8_accounts rfl (Nat.le_of_ble_eq_true rfl) (lv := [(0, .ref m)]) rfl ?_
  have loop : ∀ (t i : Nat), i + t = 7 → mm_Gi mX8_accounts (fun q J => q = is_sum (fun k => I (m + 1) (129 + k)) 7 ∧ J = I) 4 [(2, .int (nI i)), (1, .int (is_sum (fun k => I (m + 1) (129 + k)) i)), (0, .ref m)] [] S S I := by
    intro t
    induction t with
    | zero =>
      intro i hit
      have hi7 : i = 7 := by omega
      subst hi7
      refine mm_iload_n dX8_accounts_4 rfl rfl ?_
      refine mm_bipush 6 dX8_accounts_5 rfl ?_
      refine mm_icmp_gt 29 dX8_accounts_7 (by decide) (fun c_7 => ?_) (fun c_7 => absurd (by decide) c_7)
      refine mm_iload_n dX8_accounts_29 rfl rfl ?_
      refine mm_iret dX8_accounts_30 rfl ?_
      exact ⟨rfl, _, rfl, rfl, rfl⟩
    | succ t ih =>
      intro i hit
      refine mm_iload_n dX8_accounts_4 rfl rfl ?_
      refine mm_bipush 6 dX8_accounts_5 rfl ?_
      refine mm_icmp_gt 29 dX8_accounts_7 (by decide) (fun c_7 => absurd c_7 (nI_nlt (a := 6) (by omega) (by omega))) (fun c_7 => ?_)
      refine mm_iload_n dX8_accounts_10 rfl rfl ?_
      refine mm_aload_n dX8_accounts_11 rfl rfl ?_
      refine mm_getR dX8_accounts_12 fl_X8_7 rfl (by assumption) (by assumption) ?_
      refine mm_sipush 129 dX8_accounts_15 rfl ?_
      refine mm_iload_n dX8_accounts_18 rfl rfl ?_
      refine mm_iadd dX8_accounts_19 ?_
      refine mm_tope (y := nI (129 + i)) (nI_add 129 i) ?_
      refine mm_iald dX8_accounts_20 (by assumption) (hx (129 + i) (by omega)) ?_
      rw [nI_clamp (by omega)]
      refine mm_iadd dX8_accounts_21 ?_
      refine mm_istore_n dX8_accounts_22 rfl (Nat.le_of_ble_eq_true rfl) ?_
      refine mm_iinc 1 dX8_accounts_23 rfl rfl (Nat.le_of_ble_eq_true rfl) ?_
      rw [nI_1]
      refine mm_goto 4 dX8_accounts_26 (by decide) ?_
      exact mm_G.at (ih (i + 1) (by omega)) (mm_s1 rfl (mm_s1 rfl (mm_s1 rfl mm_s0)))
  refine mm_iconst 0 dX8_accounts_0 rfl ?_
  refine mm_istore_n dX8_accounts_1 rfl (Nat.le_of_ble_eq_true rfl) ?_
  refine mm_iconst 0 dX8_accounts_2 rfl ?_
  refine mm_istore_n dX8_accounts_3 rfl (Nat.le_of_ble_eq_true rfl) ?_
  exact mm_G.at (loop 7 0 (by omega)) (mm_s1 rfl (mm_s1 rfl (mm_s1 rfl mm_s0)))
set_option maxRecDepth 100000 in
set_option maxHeartbeats 4000000 in
theorem r_ofLots0 {S : mm_S} {I : mm_I} {m : Nat} (hM : mm_ref S m) (hi : Inv (I (m + 1))) : mm_ci mX8_ofLots [.ref m, .int 0] S I (fun q J => q = nI (ws_sum (fun l => ws_sum (sw (I (m + 1)) l) (sv (I (m + 1)) (9 + 20 * l))) (sv (I (m + 1)) 0)) ∧ r_fr I J m) := by
  have hM0 := hM
  obtain ⟨hk, hp0, hp1, hp2, hp5, hp7, hp15, hk1, hk2, hk3, hk4, hk5, hk6⟩ := hM
  have hx : ∀ n, n < 316 → vp_in (nI n) 316 := fun n h => vp_in_nI h (by omega)
  have hN := hi.1.1
  refine mm_ci.of okX8_ofLots rfl (Nat.le_of_ble_eq_true rfl) (lv := [(0, .ref m), (1, .int 0)]) rfl ?_
  have loop : ∀ (t l : Nat) (I1 : mm_I), l + t = sv (I (m + 1)) 0 → r_fr I I1 m → mm_Gi mX8_ofLots (fun q J => q = nI (ws_sum (fun l => ws_sum (sw (I (m + 1)) l) (sv (I (m + 1)) (9 + 20 * l))) (sv (I (m + 1)) 0)) ∧ r_fr I J m) 4 [(3, .int (nI l)), (2, .int (nI (ws_sum (fun l => ws_sum (sw (I (m + 1)) l) (sv (I (m + 1)) (9 + 20 * l))) l))), (0, .ref m), (1, .int 0)] [] S S I1 := by
    intro t
    induction t with
    | zero =>
      intro l I1 hl g2
      have hln : l = sv (I (m + 1)) 0 := by omega
      have g1 := g2.s
      have e0 : I1 (m + 1) 0 = nI (sv (I (m + 1)) 0) := by rw [g1]; exact hN.1
      refine mm_iload_n dX8_ofLots_4 rfl rfl ?_
      refine mm_aload_n dX8_ofLots_5 rfl rfl ?_
      refine mm_getR dX8_ofLots_6 fl_X8_7 rfl (by assumption) (by assumption) ?_
      refine mm_iconst 0 dX8_ofLots_9 rfl ?_
      refine mm_iald dX8_ofLots_10 (by assumption) (hx 0 (by omega)) ?_
      refine mm_tope (y := nI (sv (I (m + 1)) 0)) e0 ?_
      refine mm_icmp_ge 44 dX8_ofLots_11 (by decide) (fun c_11 => ?_) (fun c_11 => absurd (nI_le (by omega) (by omega)) c_11)
      refine mm_iload_n dX8_ofLots_44 rfl rfl ?_
      refine mm_iret dX8_ofLots_45 rfl ?_
      exact ⟨rfl, _, rfl, by rw [hln], g2⟩
    | succ t ih =>
      intro l I1 hl g2
      have g1 := g2.s
      have hl6 : l < 6 := by omega
      have e0 : I1 (m + 1) 0 = nI (sv (I (m + 1)) 0) := by rw [g1]; exact hN.1
      refine mm_iload_n dX8_ofLots_4 rfl rfl ?_
      refine mm_aload_n dX8_ofLots_5 rfl rfl ?_
      refine mm_getR dX8_ofLots_6 fl_X8_7 rfl (by assumption) (by assumption) ?_
      refine mm_iconst 0 dX8_ofLots_9 rfl ?_
      refine mm_iald dX8_ofLots_10 (by assumption) (hx 0 (by omega)) ?_
      refine mm_tope (y := nI (sv (I (m + 1)) 0)) e0 ?_
      refine mm_icmp_ge 44 dX8_ofLots_11 (by decide) (fun c_11 => absurd c_11 (nI_ge (by omega) (by omega))) (fun c_11 => ?_)
      refine mm_aload_n dX8_ofLots_14 rfl rfl ?_
      refine mm_iload_n dX8_ofLots_15 rfl rfl ?_
      refine mm_Vv (N := mX8_loads) (ci := 8) (as := [_]) dX8_ofLots_16 lk_X8_62 okX8_loads (by decide) rfl (by decide) rfl (by assumption) rfl (by decide) (inv_load hM0 (by rw [g1]; exact hi) hl6) (fun J2 hw1 => ?_)
      obtain ⟨hw1, hf1⟩ := hw1
      have g3 := g2.tr hf1
      rw [g1] at hw1
      refine mm_iload_n dX8_ofLots_19 rfl rfl ?_
      refine mm_iload_n dX8_ofLots_20 rfl rfl ?_
      refine mm_if_eq 32 dX8_ofLots_21 (by decide) (fun c_21 => ?_) (fun c_21 => absurd rfl c_21)
      refine mm_aload_n dX8_ofLots_32 rfl rfl ?_
      refine mm_Vi (N := mX8_all) (ci := 8) (as := []) dX8_ofLots_33 lk_X8_58 okX8_all (by decide) rfl (by decide) rfl (by assumption) rfl (by first | decide | (simp [Value.category])) (r_all hM0 hw1 (hi.2.1 l hl6).2.1.1) (fun r3 J3 hq => ?_)
      obtain ⟨rfl, hJ⟩ := hq
      subst J3
      refine mm_iadd dX8_ofLots_36 ?_
      refine mm_tope (y := nI (ws_sum (fun l => ws_sum (sw (I (m + 1)) l) (sv (I (m + 1)) (9 + 20 * l))) (l + 1))) (nI_add _ _) ?_
      refine mm_istore_n dX8_ofLots_37 rfl (Nat.le_of_ble_eq_true rfl) ?_
      refine mm_iinc 1 dX8_ofLots_38 rfl rfl (Nat.le_of_ble_eq_true rfl) ?_
      rw [nI_1]
      refine mm_goto 4 dX8_ofLots_41 (by decide) ?_
      exact mm_G.at (ih (l + 1) _ (by omega) g3) (mm_s1 rfl (mm_s1 rfl (mm_s1 rfl (mm_s1 rfl mm_s0))))
  refine mm_iconst 0 dX8_ofLots_0 rfl ?_
  refine mm_istore_n dX8_ofLots_1 rfl (Nat.le_of_ble_eq_true rfl) ?_
  refine mm_iconst 0 dX8_ofLots_2 rfl ?_
  refine mm_istore_n dX8_ofLots_3 rfl (Nat.le_of_ble_eq_true rfl) ?_
  exact mm_G.at (loop (sv (I (m + 1)) 0) 0 I (by omega) r_fr.rf) (mm_s1 rfl (mm_s1 rfl (mm_s1 rfl (mm_s1 rfl mm_s0))))
set_option maxRecDepth 100000 in
set_option maxHeartbeats 4000000 in
theorem r_ofLots1 {S : mm_S} {I : mm_I} {m : Nat} (hM : mm_ref S m) (hi : Inv (I (m + 1))) : mm_ci mX8_ofLots [.ref m, .int 1] S I (fun q J => q = nI (ws_sum (hsum (I (m + 1))) (sv (I (m + 1)) 0)) ∧ r_fr I J m) := by
  have hM0 := hM
  obtain ⟨hk, hp0, hp1, hp2, hp5, hp7, hp15, hk1, hk2, hk3, hk4, hk5, hk6⟩ := hM
  have hx : ∀ n, n < 316 → vp_in (nI n) 316 := fun n h => vp_in_nI h (by omega)
  have hN := hi.1.1
  refine mm_ci.of okX8_ofLots rfl (Nat.le_of_ble_eq_true rfl) (lv := [(0, .ref m), (1, .int 1)]) rfl ?_
  have loop : ∀ (t l : Nat) (I1 : mm_I), l + t = sv (I (m + 1)) 0 → r_fr I I1 m → mm_Gi mX8_ofLots (fun q J => q = nI (ws_sum (hsum (I (m + 1))) (sv (I (m + 1)) 0)) ∧ r_fr I J m) 4 [(3, .int (nI l)), (2, .int (nI (ws_sum (hsum (I (m + 1))) l))), (0, .ref m), (1, .int 1)] [] S S I1 := by
    intro t
    induction t with
    | zero =>
      intro l I1 hl g2
      have hln : l = sv (I (m + 1)) 0 := by omega
      have g1 := g2.s
      have e0 : I1 (m + 1) 0 = nI (sv (I (m + 1)) 0) := by rw [g1]; exact hN.1
      refine mm_iload_n dX8_ofLots_4 rfl rfl ?_
      refine mm_aload_n dX8_ofLots_5 rfl rfl ?_
      refine mm_getR dX8_ofLots_6 fl_X8_7 rfl (by assumption) (by assumption) ?_
      refine mm_iconst 0 dX8_ofLots_9 rfl ?_
      refine mm_iald dX8_ofLots_10 (by assumption) (hx 0 (by omega)) ?_
      refine mm_tope (y := nI (sv (I (m + 1)) 0)) e0 ?_
      refine mm_icmp_ge 44 dX8_ofLots_11 (by decide) (fun c_11 => ?_) (fun c_11 => absurd (nI_le (by omega) (by omega)) c_11)
      refine mm_iload_n dX8_ofLots_44 rfl rfl ?_
      refine mm_iret dX8_ofLots_45 rfl ?_
      exact ⟨rfl, _, rfl, by rw [hln], g2⟩
    | succ t ih =>
      intro l I1 hl g2
      have g1 := g2.s
      have hl6 : l < 6 := by omega
      have e0 : I1 (m + 1) 0 = nI (sv (I (m + 1)) 0) := by rw [g1]; exact hN.1
      refine mm_iload_n dX8_ofLots_4 rfl rfl ?_
      refine mm_aload_n dX8_ofLots_5 rfl rfl ?_
      refine mm_getR dX8_ofLots_6 fl_X8_7 rfl (by assumption) (by assumption) ?_
      refine mm_iconst 0 dX8_ofLots_9 rfl ?_
      refine mm_iald dX8_ofLots_10 (by assumption) (hx 0 (by omega)) ?_
      refine mm_tope (y := nI (sv (I (m + 1)) 0)) e0 ?_
      refine mm_icmp_ge 44 dX8_ofLots_11 (by decide) (fun c_11 => absurd c_11 (nI_ge (by omega) (by omega))) (fun c_11 => ?_)
      refine mm_aload_n dX8_ofLots_14 rfl rfl ?_
      refine mm_iload_n dX8_ofLots_15 rfl rfl ?_
      refine mm_Vv (N := mX8_loads) (ci := 8) (as := [_]) dX8_ofLots_16 lk_X8_62 okX8_loads (by decide) rfl (by decide) rfl (by assumption) rfl (by decide) (inv_load hM0 (by rw [g1]; exact hi) hl6) (fun J2 hw1 => ?_)
      obtain ⟨hw1, hf1⟩ := hw1
      have g3 := g2.tr hf1
      rw [g1] at hw1
      refine mm_iload_n dX8_ofLots_19 rfl rfl ?_
      refine mm_iload_n dX8_ofLots_20 rfl rfl ?_
      refine mm_if_eq 32 dX8_ofLots_21 (by decide) (fun c_21 => absurd c_21 (by decide)) (fun c_21 => ?_)
      refine mm_aload_n dX8_ofLots_24 rfl rfl ?_
      refine mm_iload_n dX8_ofLots_25 rfl rfl ?_
      refine mm_Vi (N := mX8_allHeld) (ci := 8) (as := [_]) dX8_ofLots_26 lk_X8_104 okX8_allHeld (by decide) rfl (by decide) rfl (by assumption) rfl (by first | decide | (simp [Value.category])) (inv_allHeld hM0 (by rw [g3.s]; exact hi) hl6) (fun r3 J3 hq => ?_)
      obtain ⟨rfl, hJ⟩ := hq
      subst J3
      rw [g3.s]
      refine mm_goto 36 dX8_ofLots_29 (by decide) ?_
      refine mm_iadd dX8_ofLots_36 ?_
      refine mm_tope (y := nI (ws_sum (hsum (I (m + 1))) (l + 1))) (nI_add _ _) ?_
      refine mm_istore_n dX8_ofLots_37 rfl (Nat.le_of_ble_eq_true rfl) ?_
      refine mm_iinc 1 dX8_ofLots_38 rfl rfl (Nat.le_of_ble_eq_true rfl) ?_
      rw [nI_1]
      refine mm_goto 4 dX8_ofLots_41 (by decide) ?_
      exact mm_G.at (ih (l + 1) _ (by omega) g3) (mm_s1 rfl (mm_s1 rfl (mm_s1 rfl (mm_s1 rfl mm_s0))))
  refine mm_iconst 0 dX8_ofLots_0 rfl ?_
  refine mm_istore_n dX8_ofLots_1 rfl (Nat.le_of_ble_eq_true rfl) ?_
  refine mm_iconst 0 dX8_ofLots_2 rfl ?_
  refine mm_istore_n dX8_ofLots_3 rfl (Nat.le_of_ble_eq_true rfl) ?_
  exact mm_G.at (loop (sv (I (m + 1)) 0) 0 I (by omega) r_fr.rf) (mm_s1 rfl (mm_s1 rfl (mm_s1 rfl (mm_s1 rfl mm_s0))))
def sq_cntF (s : Nat → Int32) (p t : Int32) : Nat → Int32
  | 0 => s 0
  | 1 => s 1
  | 2 => s 2
  | 3 => is_sum (fun k => s (129 + k)) 7
  | 4 => nI (ws_sum (fun l => ws_sum (sw s l) (sv s (9 + 20 * l))) (sv s 0))
  | 5 => s 3
  | 6 => nI (ws_sum (hsum s) (sv s 0))
  | 7 => s 4
  | 8 => s 5
  | 9 => s 6
  | 10 => p
  | _ => t
def sq_count (s : Nat → Int32) (p t f : Int32) : Int32 := if 0 ≤ f ∧ f ≤ 11 then sq_cntF s p t f.toNatClampNeg else if 20 ≤ f ∧ f ≤ 21 then s (7 + f.toNatClampNeg - 20) else -2000000001

set_option maxRecDepth 100000 in
set_option maxHeartbeats 4000000 in
theorem r_count {S : mm_S} {I : mm_I} {m : Nat} {f : Int32} (hM : mm_ref S m) (hi : Inv (I (m + 1))) : mm_ci mX8_count [.ref m, .int f] S I (fun q J => q = sq_count (I (m + 1)) (I m 3) (I m 6) f ∧ r_fr I J m) := by
  have hM0 := hM
  obtain ⟨hk, hp0, hp1, hp2, hp5, hp7, hp15, hk1, hk2, hk3, hk4, hk5, hk6⟩ := hM
  have hx : ∀ n, n < 316 → vp_in (nI n) 316 := fun n h => vp_in_nI h (by omega)
  refine mm_ci.of okX8_count rfl (Nat.le_of_ble_eq_true rfl) (lv := [(0, .ref m), (1, .int f)]) rfl ?_
  by_cases hf : 0 ≤ f ∧ f ≤ 11
  · obtain ⟨F, hF11, rfl, hFc⟩ := int_n (n := 11) rfl (by omega) hf
    have hsp0 : sq_count (I (m + 1)) (I m 3) (I m 6) (nI F) = sq_cntF (I (m + 1)) (I m 3) (I m 6) F := by
      unfold sq_count
      rw [if_pos hf, hFc]
    clear hf hFc
    rcases F with _ | F
    · skip
      refine mm_iload_n dX8_count_0 rfl rfl ?_
      refine mm_tableIn 64 dX8_count_1 (by decide) (by decide) rfl (by decide) ?_
      refine mm_aload_n dX8_count_64 rfl rfl ?_
      refine mm_getR dX8_count_65 fl_X8_7 rfl (by assumption) (by assumption) ?_
      refine mm_iload_n dX8_count_68 rfl rfl ?_
      refine mm_iald dX8_count_69 (by assumption) (hx 0 (by omega)) ?_
      rw [nI_clamp (by omega)]
      refine mm_iret dX8_count_70 rfl ?_
      refine ⟨rfl, _, rfl, ?_, by first | exact r_fr.rf | exact hf1⟩
      rw [hsp0]
      rfl
    · rcases F with _ | F
      · skip
        refine mm_iload_n dX8_count_0 rfl rfl ?_
        refine mm_tableIn 64 dX8_count_1 (by decide) (by decide) rfl (by decide) ?_
        refine mm_aload_n dX8_count_64 rfl rfl ?_
        refine mm_getR dX8_count_65 fl_X8_7 rfl (by assumption) (by assumption) ?_
        refine mm_iload_n dX8_count_68 rfl rfl ?_
        refine mm_iald dX8_count_69 (by assumption) (hx 1 (by omega)) ?_
        rw [nI_clamp (by omega)]
        refine mm_iret dX8_count_70 rfl ?_
        refine ⟨rfl, _, rfl, ?_, by first | exact r_fr.rf | exact hf1⟩
        rw [hsp0]
        rfl
      · rcases F with _ | F
        · skip
          refine mm_iload_n dX8_count_0 rfl rfl ?_
          refine mm_tableIn 64 dX8_count_1 (by decide) (by decide) rfl (by decide) ?_
          refine mm_aload_n dX8_count_64 rfl rfl ?_
          refine mm_getR dX8_count_65 fl_X8_7 rfl (by assumption) (by assumption) ?_
          refine mm_iload_n dX8_count_68 rfl rfl ?_
          refine mm_iald dX8_count_69 (by assumption) (hx 2 (by omega)) ?_
          rw [nI_clamp (by omega)]
          refine mm_iret dX8_count_70 rfl ?_
          refine ⟨rfl, _, rfl, ?_, by first | exact r_fr.rf | exact hf1⟩
          rw [hsp0]
          rfl
        · rcases F with _ | F
          · skip
            refine mm_iload_n dX8_count_0 rfl rfl ?_
            refine mm_tableIn 71 dX8_count_1 (by decide) (by decide) rfl (by decide) ?_
            refine mm_aload_n dX8_count_71 rfl rfl ?_
            refine mm_Vi (N := mX8_accounts) (ci := 8) (as := []) dX8_count_72 lk_X8_141 okX8_accounts (by decide) rfl (by decide) rfl (by assumption) rfl (by decide) (r_accounts hM0) (fun r1 J1 hq => ?_)
            obtain ⟨rfl, hJ⟩ := hq
            subst J1
            refine mm_iret dX8_count_75 rfl ?_
            refine ⟨rfl, _, rfl, ?_, by first | exact r_fr.rf | exact hf1⟩
            rw [hsp0]
            rfl
          · rcases F with _ | F
            · skip
              refine mm_iload_n dX8_count_0 rfl rfl ?_
              refine mm_tableIn 76 dX8_count_1 (by decide) (by decide) rfl (by decide) ?_
              refine mm_aload_n dX8_count_76 rfl rfl ?_
              refine mm_iload_n dX8_count_77 rfl rfl ?_
              refine mm_bipush 6 dX8_count_78 rfl ?_
              refine mm_icmp_ne 87 dX8_count_80 (by decide) (fun c_80 => ?_) (fun c_80 => absurd c_80 (by decide))
              refine mm_iconst 0 dX8_count_87 rfl ?_
              refine mm_Vi (N := mX8_ofLots) (ci := 8) (as := [_]) dX8_count_88 lk_X8_144 okX8_ofLots (by decide) rfl (by decide) rfl (by assumption) rfl (by decide) (r_ofLots0 hM0 hi) (fun r1 J1 hq => ?_)
              obtain ⟨rfl, hf1⟩ := hq
              refine mm_iret dX8_count_91 rfl ?_
              refine ⟨rfl, _, rfl, ?_, by first | exact r_fr.rf | exact hf1⟩
              rw [hsp0]
              rfl
            · rcases F with _ | F
              · skip
                refine mm_iload_n dX8_count_0 rfl rfl ?_
                refine mm_tableIn 92 dX8_count_1 (by decide) (by decide) rfl (by decide) ?_
                refine mm_aload_n dX8_count_92 rfl rfl ?_
                refine mm_getR dX8_count_93 fl_X8_7 rfl (by assumption) (by assumption) ?_
                refine mm_iconst 3 dX8_count_96 rfl ?_
                refine mm_iald dX8_count_97 (by assumption) (hx 3 (by omega)) ?_
                refine mm_iret dX8_count_98 rfl ?_
                refine ⟨rfl, _, rfl, ?_, by first | exact r_fr.rf | exact hf1⟩
                rw [hsp0]
                rfl
              · rcases F with _ | F
                · skip
                  refine mm_iload_n dX8_count_0 rfl rfl ?_
                  refine mm_tableIn 76 dX8_count_1 (by decide) (by decide) rfl (by decide) ?_
                  refine mm_aload_n dX8_count_76 rfl rfl ?_
                  refine mm_iload_n dX8_count_77 rfl rfl ?_
                  refine mm_bipush 6 dX8_count_78 rfl ?_
                  refine mm_icmp_ne 87 dX8_count_80 (by decide) (fun c_80 => absurd rfl c_80) (fun c_80 => ?_)
                  refine mm_iconst 1 dX8_count_83 rfl ?_
                  refine mm_goto 88 dX8_count_84 (by decide) ?_
                  refine mm_Vi (N := mX8_ofLots) (ci := 8) (as := [_]) dX8_count_88 lk_X8_144 okX8_ofLots (by decide) rfl (by decide) rfl (by assumption) rfl (by decide) (r_ofLots1 hM0 hi) (fun r1 J1 hq => ?_)
                  obtain ⟨rfl, hf1⟩ := hq
                  refine mm_iret dX8_count_91 rfl ?_
                  refine ⟨rfl, _, rfl, ?_, by first | exact r_fr.rf | exact hf1⟩
                  rw [hsp0]
                  rfl
                · rcases F with _ | F
                  · skip
                    refine mm_iload_n dX8_count_0 rfl rfl ?_
                    refine mm_tableIn 99 dX8_count_1 (by decide) (by decide) rfl (by decide) ?_
                    refine mm_aload_n dX8_count_99 rfl rfl ?_
                    refine mm_getR dX8_count_100 fl_X8_7 rfl (by assumption) (by assumption) ?_
                    refine mm_iconst 4 dX8_count_103 rfl ?_
                    refine mm_iload_n dX8_count_104 rfl rfl ?_
                    refine mm_iadd dX8_count_105 ?_
                    refine mm_bipush 7 dX8_count_106 rfl ?_
                    refine mm_isub dX8_count_108 ?_
                    refine mm_tope (y := nI 4) rfl ?_
                    refine mm_iald dX8_count_109 (by assumption) (hx 4 (by omega)) ?_
                    rw [nI_clamp (by omega)]
                    refine mm_iret dX8_count_110 rfl ?_
                    refine ⟨rfl, _, rfl, ?_, by first | exact r_fr.rf | exact hf1⟩
                    rw [hsp0]
                    rfl
                  · rcases F with _ | F
                    · skip
                      refine mm_iload_n dX8_count_0 rfl rfl ?_
                      refine mm_tableIn 99 dX8_count_1 (by decide) (by decide) rfl (by decide) ?_
                      refine mm_aload_n dX8_count_99 rfl rfl ?_
                      refine mm_getR dX8_count_100 fl_X8_7 rfl (by assumption) (by assumption) ?_
                      refine mm_iconst 4 dX8_count_103 rfl ?_
                      refine mm_iload_n dX8_count_104 rfl rfl ?_
                      refine mm_iadd dX8_count_105 ?_
                      refine mm_bipush 7 dX8_count_106 rfl ?_
                      refine mm_isub dX8_count_108 ?_
                      refine mm_tope (y := nI 5) rfl ?_
                      refine mm_iald dX8_count_109 (by assumption) (hx 5 (by omega)) ?_
                      rw [nI_clamp (by omega)]
                      refine mm_iret dX8_count_110 rfl ?_
                      refine ⟨rfl, _, rfl, ?_, by first | exact r_fr.rf | exact hf1⟩
                      rw [hsp0]
                      rfl
                    · rcases F with _ | F
                      · skip
                        refine mm_iload_n dX8_count_0 rfl rfl ?_
                        refine mm_tableIn 99 dX8_count_1 (by decide) (by decide) rfl (by decide) ?_
                        refine mm_aload_n dX8_count_99 rfl rfl ?_
                        refine mm_getR dX8_count_100 fl_X8_7 rfl (by assumption) (by assumption) ?_
                        refine mm_iconst 4 dX8_count_103 rfl ?_
                        refine mm_iload_n dX8_count_104 rfl rfl ?_
                        refine mm_iadd dX8_count_105 ?_
                        refine mm_bipush 7 dX8_count_106 rfl ?_
                        refine mm_isub dX8_count_108 ?_
                        refine mm_tope (y := nI 6) rfl ?_
                        refine mm_iald dX8_count_109 (by assumption) (hx 6 (by omega)) ?_
                        rw [nI_clamp (by omega)]
                        refine mm_iret dX8_count_110 rfl ?_
                        refine ⟨rfl, _, rfl, ?_, by first | exact r_fr.rf | exact hf1⟩
                        rw [hsp0]
                        rfl
                      · rcases F with _ | F
                        · skip
                          refine mm_iload_n dX8_count_0 rfl rfl ?_
                          refine mm_tableIn 111 dX8_count_1 (by decide) (by decide) rfl (by decide) ?_
                          refine mm_aload_n dX8_count_111 rfl rfl ?_
                          refine mm_getI dX8_count_112 fl_X8_32 rfl (by assumption) ?_
                          refine mm_iret dX8_count_115 rfl ?_
                          refine ⟨rfl, _, rfl, ?_, by first | exact r_fr.rf | exact hf1⟩
                          rw [hsp0]
                          rfl
                        · rcases F with _ | F
                          · skip
                            refine mm_iload_n dX8_count_0 rfl rfl ?_
                            refine mm_tableIn 116 dX8_count_1 (by decide) (by decide) rfl (by decide) ?_
                            refine mm_aload_n dX8_count_116 rfl rfl ?_
                            refine mm_getI dX8_count_117 fl_X8_148 rfl (by assumption) ?_
                            refine mm_iret dX8_count_120 rfl ?_
                            refine ⟨rfl, _, rfl, ?_, by first | exact r_fr.rf | exact hf1⟩
                            rw [hsp0]
                            rfl
                          · omega
  · have hout : f.toInt < 0 ∨ 11 < f.toInt := by
      rcases Classical.em (0 ≤ f) with h | h
      · rcases Classical.em (f ≤ 11) with h2 | h2
        · exact absurd ⟨h, h2⟩ hf
        · right
          have h3 := Int32.lt_iff_toInt_lt.mp (Int32.not_le.mp h2)
          exact h3
      · left
        exact Int32.lt_iff_toInt_lt.mp (Int32.not_le.mp h)
    refine mm_iload_n dX8_count_0 rfl rfl ?_
    refine mm_tableOut 121 dX8_count_1 hout (by decide) ?_
    refine mm_iload_n dX8_count_121 rfl rfl ?_
    refine mm_bipush 20 dX8_count_122 rfl ?_
    refine mm_bipush 21 dX8_count_124 rfl ?_
    refine mm_Si (N := mX8_in) (as := [_, _, _]) dX8_count_126 lk_X8_72 okX8_in (by decide) rfl rfl (by decide) r_in (fun r1 J1 hq => ?_)
    obtain ⟨rfl, hJ⟩ := hq
    subst J1
    refine mm_if_eq 147 dX8_count_129 (by decide) (fun c_129 => ?_) (fun c_129 => ?_)
    · skip
      have n1 := if_no c_129
      refine mm_ldc dX8_count_147 ct_X8_76 ?_
      refine mm_iret dX8_count_149 rfl ?_
      refine ⟨rfl, _, rfl, ?_, r_fr.rf⟩
      unfold sq_count
      first
        | (rw [if_neg hf, if_neg n1]; done)
        | (rw [if_neg hf, if_pos y1, hFc]; done)
    · skip
      have y1 := if_yes c_129
      obtain ⟨F, hF21, rfl, hFc⟩ := int_n (n := 21) rfl (by omega) ⟨Int32.le_trans (by decide) y1.1, y1.2⟩
      have hF20 : 20 ≤ F := (nI_leI (a := 20) (by omega) (by omega)).mp y1.1
      refine mm_aload_n dX8_count_132 rfl rfl ?_
      refine mm_getR dX8_count_133 fl_X8_7 rfl (by assumption) (by assumption) ?_
      refine mm_bipush 7 dX8_count_136 rfl ?_
      refine mm_iload_n dX8_count_138 rfl rfl ?_
      refine mm_iadd dX8_count_139 ?_
      refine mm_tope (y := nI (7 + F)) (nI_add 7 F) ?_
      refine mm_bipush 20 dX8_count_140 rfl ?_
      refine mm_isub dX8_count_142 ?_
      refine mm_tope (y := nI (7 + F - 20)) (pk_sub (b := 20) (by omega)) ?_
      refine mm_iald dX8_count_143 (by assumption) (hx (7 + F - 20) (by omega)) ?_
      rw [nI_clamp (by omega)]
      refine mm_goto 149 dX8_count_144 (by decide) ?_
      refine mm_iret dX8_count_149 rfl ?_
      refine ⟨rfl, _, rfl, ?_, r_fr.rf⟩
      unfold sq_count
      first
        | (rw [if_neg hf, if_neg n1]; done)
        | (rw [if_neg hf, if_pos y1, hFc]; done)
set_option maxRecDepth 100000 in
set_option maxHeartbeats 4000000 in
theorem r_undo {S : mm_S} {I : mm_I} {m n : Nat} {hs : Nat → Nat → Int32} (hM : mm_ref S m) (hh : hist_r I m n hs) : mm_ci mX8_undo [.ref m] S I (fun q J => if n = 0 then q = -2000000002 ∧ J = I else q = nI (n - 1) ∧ J (m + 1) = (fun j => if j < 316 then hs (n - 1) j else I (m + 1) j) ∧ J m 3 = nI (n - 1) ∧ (∀ c, c ≠ m → c ≠ m + 1 → J c = I c) ∧ ∀ j, j ≠ 3 → J m j = I m j) := by
  have hM0 := hM
  obtain ⟨hk, hp0, hp1, hp2, hp5, hp7, hp15, hk1, hk2, hk3, hk4, hk5, hk6⟩ := hM
  obtain ⟨h3, hn4, hhs⟩ := hh
  refine mm_ci.of okX8_undo rfl (Nat.le_of_ble_eq_true rfl) (lv := [(0, .ref m)]) rfl ?_
  rcases Nat.eq_zero_or_pos n with h0 | h0
  · skip
    refine mm_aload_n dX8_undo_0 rfl rfl ?_
    refine mm_getI dX8_undo_1 fl_X8_32 rfl (by assumption) ?_
    refine mm_tope (y := nI n) h3 ?_
    refine mm_if_ne 10 dX8_undo_4 (by decide) (fun c_4 => absurd (by rw [h0]; rfl) c_4) (fun c_4 => ?_)
    refine mm_ldc dX8_undo_7 ct_X8_91 ?_
    refine mm_iret dX8_undo_9 rfl ?_
    exact ⟨rfl, _, rfl, Eq.mpr (if_pos h0) ⟨rfl, rfl⟩⟩
  · skip
    have loop : ∀ (t i : Nat) (I1 : mm_I), i + t = 316 → I1 (m + 1) = (fun j => if j < i then hs (n - 1) j else I (m + 1) j) → I1 m 3 = nI (n - 1) → (∀ c, c ≠ m → c ≠ m + 1 → I1 c = I c) → (∀ j, j ≠ 3 → I1 m j = I m j) → mm_Gi mX8_undo (fun q J => if n = 0 then q = -2000000002 ∧ J = I else q = nI (n - 1) ∧ J (m + 1) = (fun j => if j < 316 then hs (n - 1) j else I (m + 1) j) ∧ J m 3 = nI (n - 1) ∧ (∀ c, c ≠ m → c ≠ m + 1 → J c = I c) ∧ ∀ j, j ≠ 3 → J m j = I m j) 22 [(1, .int (nI i)), (0, .ref m)] [] S S I1 := by
      intro t
      induction t with
      | zero =>
        intro i I1 hit g1 g2 g3 g4
        have hi3 : i = 316 := by omega
        subst hi3
        refine mm_iload_n dX8_undo_22 rfl rfl ?_
        refine mm_sipush 316 dX8_undo_23 rfl ?_
        refine mm_icmp_ge 56 dX8_undo_26 (by decide) (fun c_26 => ?_) (fun c_26 => absurd (by decide) c_26)
        refine mm_aload_n dX8_undo_56 rfl rfl ?_
        refine mm_getI dX8_undo_57 fl_X8_32 rfl (by assumption) ?_
        refine mm_tope (y := nI (n - 1)) g2 ?_
        refine mm_iret dX8_undo_60 rfl ?_
        exact ⟨rfl, _, rfl, Eq.mpr (if_neg (Nat.ne_of_gt h0)) ⟨rfl, g1, g2, g3, g4⟩⟩
      | succ t ih =>
        intro i I1 hit g1 g2 g3 g4
        refine mm_iload_n dX8_undo_22 rfl rfl ?_
        refine mm_sipush 316 dX8_undo_23 rfl ?_
        refine mm_icmp_ge 56 dX8_undo_26 (by decide) (fun c_26 => absurd c_26 (nI_ge (b := 316) (by omega) (by omega))) (fun c_26 => ?_)
        refine mm_aload_n dX8_undo_29 rfl rfl ?_
        refine mm_getR dX8_undo_30 fl_X8_7 rfl (by assumption) (by assumption) ?_
        refine mm_iload_n dX8_undo_33 rfl rfl ?_
        refine mm_aload_n dX8_undo_34 rfl rfl ?_
        refine mm_getR dX8_undo_35 fl_X8_13 rfl (by assumption) (by assumption) ?_
        refine mm_sipush 316 dX8_undo_38 rfl ?_
        refine mm_aload_n dX8_undo_41 rfl rfl ?_
        refine mm_getI dX8_undo_42 fl_X8_32 rfl (by assumption) ?_
        refine mm_tope (y := nI (n - 1)) g2 ?_
        refine mm_imul dX8_undo_45 ?_
        refine mm_tope (y := nI (316 * (n - 1))) (pk_mul 316 _) ?_
        refine mm_iload_n dX8_undo_46 rfl rfl ?_
        refine mm_iadd dX8_undo_47 ?_
        refine mm_tope (y := nI (316 * (n - 1) + i)) (nI_add _ _) ?_
        refine mm_iald dX8_undo_48 (by assumption) (vp_in_nI (by omega) (by omega)) ?_
        refine mm_tope (y := hs (n - 1) i) (by rw [nI_clamp (by omega), g3 (m + 2) (by omega) (by omega)]; exact hhs (n - 1) (by omega) i (by omega)) ?_
        refine mm_iast dX8_undo_49 (by assumption) (vp_in_nI (by omega) (by omega)) ?_
        rw [nI_clamp (by omega)]
        refine mm_iinc 1 dX8_undo_50 rfl rfl (Nat.le_of_ble_eq_true rfl) ?_
        rw [nI_1]
        refine mm_goto 22 dX8_undo_53 (by decide) ?_
        exact mm_G.at (ih (i + 1) _ (by omega) (by
          rw [mm_wr_upd, g1]
          funext j
          unfold upd
          by_cases e : j = i
          · rw [if_pos e, if_pos (by omega), e]
          · rw [if_neg e]
            show (if j < i then _ else _) = _
            by_cases e2 : j < i
            · rw [if_pos e2, if_pos (by omega)]
            · rw [if_neg e2, if_neg (by omega)]) (by rw [mm_wr_a (by omega)]; exact g2) (fun c q1 q2 => by rw [mm_wr_row q2]; exact g3 c q1 q2) (fun j hj => by rw [mm_wr_a (by omega)]; exact g4 j hj)) (mm_s1 rfl (mm_s1 rfl mm_s0))
    refine mm_aload_n dX8_undo_0 rfl rfl ?_
    refine mm_getI dX8_undo_1 fl_X8_32 rfl (by assumption) ?_
    refine mm_tope (y := nI n) h3 ?_
    refine mm_if_ne 10 dX8_undo_4 (by decide) (fun c_4 => ?_) (fun c_4 => absurd c_4 (nI_ne0 h0 (by omega)))
    refine mm_aload_n dX8_undo_10 rfl rfl ?_
    refine mm_dup dX8_undo_11 rfl ?_
    refine mm_getI dX8_undo_12 fl_X8_32 rfl (by assumption) ?_
    refine mm_tope (y := nI n) h3 ?_
    refine mm_iconst 1 dX8_undo_15 rfl ?_
    refine mm_isub dX8_undo_16 ?_
    refine mm_tope (y := nI (n - 1)) (nI_m1 h0) ?_
    refine mm_putI dX8_undo_17 fl_X8_32 rfl rfl (by assumption) ?_
    refine mm_iconst 0 dX8_undo_20 rfl ?_
    refine mm_istore_n dX8_undo_21 rfl (Nat.le_of_ble_eq_true rfl) ?_
    exact mm_G.at (loop 316 0 _ (by omega) (by
      rw [mm_wr_row (by omega)]
      funext j
      rw [if_neg (by omega)]) mm_wr_s (fun c q1 q2 => mm_wr_row q1) (fun j hj => mm_wr_k hj)) (mm_s1 rfl (mm_s1 rfl mm_s0))
set_option maxRecDepth 100000 in
set_option maxHeartbeats 4000000 in
theorem r_type {S : mm_S} {I : mm_I} {m ty : Nat} {c : Int32} (hM : mm_ref S m) (h6 : I m 6 = nI ty) (hty : ty ≤ 60) : mm_ci mX8_type [.ref m, .int c] S I (fun q J => if ¬ (32 ≤ c ∧ c ≤ 126) then q = -2000000001 ∧ J = I else if ty = 60 then q = -2000000003 ∧ J = I else q = nI (ty + 1) ∧ J = mm_wr (mm_wr I (m + 4) ty c) m 6 (nI (ty + 1))) := by
  obtain ⟨hk, hp0, hp1, hp2, hp5, hp7, hp15, hk1, hk2, hk3, hk4, hk5, hk6⟩ := hM
  refine mm_ci.of okX8_type rfl (Nat.le_of_ble_eq_true rfl) (lv := [(0, .ref m), (1, .int c)]) rfl ?_
  refine mm_iload_n dX8_type_0 rfl rfl ?_
  refine mm_bipush 32 dX8_type_1 rfl ?_
  refine mm_bipush 126 dX8_type_3 rfl ?_
  refine mm_Si (N := mX8_in) (as := [_, _, _]) dX8_type_5 lk_X8_72 okX8_in (by decide) rfl rfl (by decide) r_in (fun r1 J1 hq => ?_)
  obtain ⟨rfl, hJ⟩ := hq
  subst J1
  refine mm_if_ne 14 dX8_type_8 (by decide) (fun c_8 => ?_) (fun c_8 => ?_)
  · skip
    have y1 := if_yes c_8
    refine mm_aload_n dX8_type_14 rfl rfl ?_
    refine mm_getI dX8_type_15 fl_X8_148 rfl (by assumption) ?_
    refine mm_tope (y := nI ty) h6 ?_
    refine mm_bipush 60 dX8_type_18 rfl ?_
    refine mm_icmp_ne 26 dX8_type_20 (by decide) (fun c_20 => ?_) (fun c_20 => ?_)
    · skip
      have hne : ¬ ty = 60 := fun q => c_20 (by rw [q]; rfl)
      have hlt : ty < 60 := by omega
      refine mm_aload_n dX8_type_26 rfl rfl ?_
      refine mm_getR dX8_type_27 fl_X8_19 rfl (by assumption) (by assumption) ?_
      refine mm_aload_n dX8_type_30 rfl rfl ?_
      refine mm_getI dX8_type_31 fl_X8_148 rfl (by assumption) ?_
      refine mm_tope (y := nI ty) h6 ?_
      refine mm_iload_n dX8_type_34 rfl rfl ?_
      refine mm_iast dX8_type_35 (by assumption) (vp_in_nI hlt (by omega)) ?_
      rw [nI_clamp (by omega)]
      refine mm_aload_n dX8_type_36 rfl rfl ?_
      refine mm_dup dX8_type_37 rfl ?_
      refine mm_getI dX8_type_38 fl_X8_148 rfl (by assumption) ?_
      refine mm_tope (y := nI ty) (by rw [mm_wr_a (by omega)]; exact h6) ?_
      refine mm_iconst 1 dX8_type_41 rfl ?_
      refine mm_iadd dX8_type_42 ?_
      refine mm_tope (y := nI (ty + 1)) (nI_1 _) ?_
      refine mm_putI dX8_type_43 fl_X8_148 rfl rfl (by assumption) ?_
      refine mm_aload_n dX8_type_46 rfl rfl ?_
      refine mm_getI dX8_type_47 fl_X8_148 rfl (by assumption) ?_
      refine mm_tope (y := nI (ty + 1)) mm_wr_s ?_
      refine mm_iret dX8_type_50 rfl ?_
      exact ⟨rfl, _, rfl, Eq.mpr ((if_neg (fun q => q y1)).trans (if_neg hne)) ⟨rfl, rfl⟩⟩
    · skip
      have he : ty = 60 := by
        rcases Nat.lt_or_ge ty 60 with e | e
        · exact absurd c_20 (fun q => absurd ((nI_eq (a := ty) (b := 60) (by omega) (by omega)).mp q) (by omega))
        · omega
      refine mm_ldc dX8_type_23 ct_X8_77 ?_
      refine mm_iret dX8_type_25 rfl ?_
      exact ⟨rfl, _, rfl, Eq.mpr ((if_neg (fun q => q y1)).trans (if_pos he)) ⟨rfl, rfl⟩⟩
  · skip
    have n1 := if_no c_8
    refine mm_ldc dX8_type_11 ct_X8_76 ?_
    refine mm_iret dX8_type_13 rfl ?_
    exact ⟨rfl, _, rfl, Eq.mpr (if_pos n1) ⟨rfl, rfl⟩⟩
set_option maxRecDepth 100000 in
set_option maxHeartbeats 4000000 in
theorem r_clearText {S : mm_S} {I : mm_I} {m : Nat} (hM : mm_ref S m) : mm_ci mX8_clearText [.ref m] S I (fun q J => q = I m 6 ∧ J = mm_wr I m 6 0) := by
  obtain ⟨hk, hp0, hp1, hp2, hp5, hp7, hp15, hk1, hk2, hk3, hk4, hk5, hk6⟩ := hM
  refine mm_ci.of okX8_clearText rfl (Nat.le_of_ble_eq_true rfl) (lv := [(0, .ref m)]) rfl ?_
  refine mm_aload_n dX8_clearText_0 rfl rfl ?_
  refine mm_getI dX8_clearText_1 fl_X8_148 rfl (by assumption) ?_
  refine mm_istore_n dX8_clearText_4 rfl (Nat.le_of_ble_eq_true rfl) ?_
  refine mm_aload_n dX8_clearText_5 rfl rfl ?_
  refine mm_iconst 0 dX8_clearText_6 rfl ?_
  refine mm_putI dX8_clearText_7 fl_X8_148 rfl rfl (by assumption) ?_
  refine mm_iload_n dX8_clearText_10 rfl rfl ?_
  refine mm_iret dX8_clearText_11 rfl ?_
  exact ⟨rfl, _, rfl, rfl, rfl⟩
