/-! THE CLASS: Orders -/
def mm_ord (S : mm_S) (o : Nat) : Prop := (S.2.1 o).1 = 5 ∧ S.2.2 o 0 = some (o + 1) ∧ S.2.2 o 1 = some (o + 2) ∧ S.2.1 (o + 1) = (9, 60) ∧ S.2.1 (o + 2) = (9, 4)
def ot_at (I : mm_I) (o ty : Nat) (x : Nat → Nat) : Prop := I o 2 = nI ty ∧ ty ≤ 60 ∧ ∀ p, p < ty → I (o + 1) p = nI (x p) ∧ 32 ≤ x p ∧ x p ≤ 126
def o_ft (o : Nat) (I J : mm_I) : Prop := (∀ c, c ≠ o → c ≠ o + 2 → J c = I c) ∧ ∀ j, j ≠ 3 → j ≠ 4 → J o j = I o j
theorem o_ft.rf {o : Nat} {I : mm_I} : o_ft o I I := ⟨fun _ _ _ => rfl, fun _ _ _ => rfl⟩
theorem o_ft.tr {o : Nat} {I J K : mm_I} (h : o_ft o I J) (g : o_ft o J K) : o_ft o I K := ⟨fun c h1 h2 => by rw [g.1 c h1 h2]; exact h.1 c h1 h2, fun j h1 h2 => by rw [g.2 j h1 h2]; exact h.2 j h1 h2⟩
theorem o_ft.tx {o ty : Nat} {x : Nat → Nat} {I J : mm_I} (h : o_ft o I J) (g : ot_at I o ty x) : ot_at J o ty x := ⟨by rw [h.2 2 (by decide) (by decide)]; exact g.1, g.2.1, fun p hp => by rw [h.1 (o + 1) (by omega) (by omega)]; exact g.2.2 p hp⟩
theorem o_ft.w4 {o : Nat} {I J : mm_I} {z : Int32} (h : o_ft o I J) : o_ft o I (mm_wr J o 4 z) := ⟨fun c h1 h2 => by rw [mm_wr_row h1]; exact h.1 c h1 h2, fun j h1 h2 => by rw [mm_wr_k h2]; exact h.2 j h1 h2⟩
theorem o_ft.w3 {o : Nat} {I J : mm_I} {z : Int32} (h : o_ft o I J) : o_ft o I (mm_wr J o 3 z) := ⟨fun c h1 h2 => by rw [mm_wr_row h1]; exact h.1 c h1 h2, fun j h1 h2 => by rw [mm_wr_k h1]; exact h.2 j h1 h2⟩
theorem o_ft.wn {o k : Nat} {I J : mm_I} {z : Int32} (h : o_ft o I J) : o_ft o I (mm_wr J (o + 2) k z) := ⟨fun c h1 h2 => by rw [mm_wr_row h2]; exact h.1 c h1 h2, fun j h1 h2 => by rw [mm_wr_a (by omega)]; exact h.2 j h1 h2⟩
theorem cc_126 {I : mm_I} {o ty p : Nat} {x : Nat → Nat} (h : ot_at I o ty x) : cc ty x p ≤ 126 := by
  unfold cc
  split
  · rename_i q; exact (h.2.2 p q).2.2
  · omega
theorem nOf_out {k : Nat} (h0 : k ≤ 126) (h : k ≠ 98 ∧ k ≠ 108 ∧ k ≠ 109 ∧ k ≠ 115 ∧ k ≠ 116) : nOf k = 0 := by
  unfold nOf
  rw [if_neg h.2.2.2.1, if_neg (by omega), if_neg (by omega)]
theorem lk_out {k : Nat} (h0 : k ≤ 126) (h : k ≠ 98 ∧ k ≠ 108 ∧ k ≠ 109 ∧ k ≠ 115 ∧ k ≠ 116) {a b c d f z : Int} : Op.lookupswitch.offset [(98, a), (108, b), (109, c), (115, d), (116, f)] z (nI k).toInt = z := by
  rw [nI_toInt (by omega)]
  show (if (98 : Int) = (k : Int) then a else if (108 : Int) = (k : Int) then b else if (109 : Int) = (k : Int) then c else if (115 : Int) = (k : Int) then d else if (116 : Int) = (k : Int) then f else z) = z
  rw [if_neg (by omega), if_neg (by omega), if_neg (by omega), if_neg (by omega), if_neg (by omega)]

set_option maxRecDepth 100000 in
set_option maxHeartbeats 4000000 in
theorem c_sign {S : mm_S} {I : mm_I} {o ty p : Nat} {x : Nat → Nat} (hO : mm_ord S o) (hT : ot_at I o ty x) (h4 : I o 4 = nI p) (hp : p < 1000) : mm_ci mX5_sign [.ref o] S I (fun q J => q = nI (cc ty x p) ∧ J = I) := by
  obtain ⟨ok, op0, op1, ok1, ok2⟩ := hO
  obtain ⟨t2, tty, txx⟩ := hT
  refine mm_ci.of okX5_sign rfl (Nat.le_of_ble_eq_true rfl) (lv := [(0, .ref o)]) rfl ?_
  refine mm_aload_n dX5_sign_0 rfl rfl ?_
  refine mm_getI dX5_sign_1 fl_X5_28 rfl (by assumption) ?_
  refine mm_tope (y := nI p) h4 ?_
  refine mm_if_lt 42 dX5_sign_4 (by decide) (fun c_4 => absurd c_4 (nI_pos (by omega))) (fun c_4 => ?_)
  refine mm_aload_n dX5_sign_7 rfl rfl ?_
  refine mm_getI dX5_sign_8 fl_X5_28 rfl (by assumption) ?_
  refine mm_tope (y := nI p) h4 ?_
  refine mm_aload_n dX5_sign_11 rfl rfl ?_
  refine mm_getI dX5_sign_12 fl_X5_23 rfl (by assumption) ?_
  refine mm_tope (y := nI ty) t2 ?_
  refine mm_icmp_ge 42 dX5_sign_15 (by decide) (fun c_15 => ?_) (fun c_15 => ?_)
  · skip
    have hge : ty ≤ p := Nat.not_lt.mp fun q => absurd c_15 (nI_ge q (by omega))
    refine mm_iconst 0 dX5_sign_42 rfl ?_
    refine mm_iret dX5_sign_43 rfl ?_
    first
      | exact ⟨rfl, _, rfl, congrArg nI (if_pos hlt).symm, rfl⟩
      | exact ⟨rfl, _, rfl, congrArg nI (cc_0 hge).symm, rfl⟩
  · skip
    have hlt : p < ty := Nat.not_le.mp fun q => c_15 (nI_le q (by omega))
    refine mm_aload_n dX5_sign_18 rfl rfl ?_
    refine mm_getI dX5_sign_19 fl_X5_28 rfl (by assumption) ?_
    refine mm_tope (y := nI p) h4 ?_
    refine mm_aload_n dX5_sign_22 rfl rfl ?_
    refine mm_getR dX5_sign_23 fl_X5_9 rfl (by assumption) (by assumption) ?_
    refine mm_alen (t := 0) dX5_sign_26 (by assumption) (by decide) 60 rfl ?_
    refine mm_icmp_ge 42 dX5_sign_27 (by decide) (fun c_27 => absurd c_27 (nI_ge (b := 60) (by omega) (by omega))) (fun c_27 => ?_)
    refine mm_aload_n dX5_sign_30 rfl rfl ?_
    refine mm_getR dX5_sign_31 fl_X5_9 rfl (by assumption) (by assumption) ?_
    refine mm_aload_n dX5_sign_34 rfl rfl ?_
    refine mm_getI dX5_sign_35 fl_X5_28 rfl (by assumption) ?_
    refine mm_tope (y := nI p) h4 ?_
    refine mm_iald dX5_sign_38 (by assumption) (vp_in_nI (n := p) (by omega) (by omega)) ?_
    refine mm_tope (y := nI (x p)) ((congrArg (I (o + 1)) (nI_clamp (by omega))).trans (txx p hlt).1) ?_
    refine mm_goto 43 dX5_sign_39 (by decide) ?_
    refine mm_iret dX5_sign_43 rfl ?_
    first
      | exact ⟨rfl, _, rfl, congrArg nI (if_pos hlt).symm, rfl⟩
      | exact ⟨rfl, _, rfl, congrArg nI (cc_0 hge).symm, rfl⟩
set_option maxRecDepth 100000 in
set_option maxHeartbeats 4000000 in
theorem c_readNumber {S : mm_S} {I : mm_I} {o ty p i : Nat} {x : Nat → Nat} {R : Nat × Nat} (hO : mm_ord S o) (hT : ot_at I o ty x) (h4 : I o 4 = nI p) (hp : p < 900) (hi : i < 4) (hR0 : rdNum (cc ty x) 3 p 0 = R) : mm_ci mX5_readNumber [.ref o, .int (nI i)] S I (fun q J => q = (if p < R.1 then 1 else 0) ∧ J o 4 = nI R.1 ∧ J (o + 2) = upd (I (o + 2)) i (nI R.2) ∧ J o 3 = I o 3 ∧ o_ft o I J) := by
  have hO0 := hO
  obtain ⟨ok, op0, op1, ok1, ok2⟩ := hO
  have hc : ∀ q, cc ty x q ≤ 126 := fun q => cc_126 hT
  refine mm_ci.of okX5_readNumber rfl (Nat.le_of_ble_eq_true rfl) (lv := [(0, .ref o), (1, .int (nI i))]) rfl ?_
  have fin : ∀ (d v p' : Nat) (I1 : mm_I), d ≤ 3 → p' = p + d → R = (p', v) → I1 o 4 = nI p' → I1 (o + 2) = I (o + 2) → I1 o 3 = I o 3 → o_ft o I I1 → mm_Gi mX5_readNumber (fun q J => q = (if p < R.1 then 1 else 0) ∧ J o 4 = nI R.1 ∧ J (o + 2) = upd (I (o + 2)) i (nI R.2) ∧ J o 3 = I o 3 ∧ o_ft o I J) 52 [(3, .int (nI d)), (2, .int (nI v)), (0, .ref o), (1, .int (nI i))] [] S S I1 := by
    intro d v p' I1 hd3 hp' hR g1 g2 g3 g4
    refine mm_iload_n dX5_readNumber_52 rfl rfl ?_
    refine mm_if_lt 72 dX5_readNumber_53 (by decide) (fun c_53 => absurd c_53 (nI_pos (by omega))) (fun c_53 => ?_)
    refine mm_iload_n dX5_readNumber_56 rfl rfl ?_
    refine mm_aload_n dX5_readNumber_57 rfl rfl ?_
    refine mm_getR dX5_readNumber_58 fl_X5_15 rfl (by assumption) (by assumption) ?_
    refine mm_alen (t := 0) dX5_readNumber_61 (by assumption) (by decide) 4 rfl ?_
    refine mm_icmp_ge 72 dX5_readNumber_62 (by decide) (fun c_62 => absurd c_62 (nI_ge (b := 4) (by omega) (by omega))) (fun c_62 => ?_)
    refine mm_aload_n dX5_readNumber_65 rfl rfl ?_
    refine mm_getR dX5_readNumber_66 fl_X5_15 rfl (by assumption) (by assumption) ?_
    refine mm_iload_n dX5_readNumber_69 rfl rfl ?_
    refine mm_iload_n dX5_readNumber_70 rfl rfl ?_
    refine mm_iast dX5_readNumber_71 (by assumption) (vp_in_nI (n := i) (by omega) (by omega)) ?_
    rw [nI_clamp (by omega)]
    refine mm_iload_n dX5_readNumber_72 rfl rfl ?_
    refine mm_if_le 80 dX5_readNumber_73 (by decide) (fun c_73 => ?_) (fun c_73 => ?_)
    · skip
      have hd : d = 0 := Nat.eq_zero_of_not_pos fun q => nI_ge (a := 0) q (by omega) c_73
      refine mm_iconst 0 dX5_readNumber_80 rfl ?_
      refine mm_zret dX5_readNumber_81 rfl (by first | exact Or.inl rfl | exact Or.inr rfl | assumption) ?_
      refine ⟨rfl, _, rfl, ?_, ?_, ?_, ?_, g4.wn⟩
      · rw [hR]
        first
          | exact (if_pos (by show p < p'; omega)).symm
          | exact (if_neg (by show ¬ p < p'; omega)).symm
      · rw [hR, mm_wr_a (by omega)]; exact g1
      · rw [hR, mm_wr_upd, g2]
      · rw [mm_wr_a (by omega)]; exact g3
    · skip
      have hd : 0 < d := Nat.pos_of_ne_zero fun q => c_73 (by subst q; decide)
      refine mm_iconst 1 dX5_readNumber_76 rfl ?_
      refine mm_goto 81 dX5_readNumber_77 (by decide) ?_
      refine mm_zret dX5_readNumber_81 rfl (by first | exact Or.inl rfl | exact Or.inr rfl | assumption) ?_
      refine ⟨rfl, _, rfl, ?_, ?_, ?_, ?_, g4.wn⟩
      · rw [hR]
        first
          | exact (if_pos (by show p < p'; omega)).symm
          | exact (if_neg (by show ¬ p < p'; omega)).symm
      · rw [hR, mm_wr_a (by omega)]; exact g1
      · rw [hR, mm_wr_upd, g2]
      · rw [mm_wr_a (by omega)]; exact g3
  have loop : ∀ (u d v p' : Nat) (I1 : mm_I), d + u = 3 → p' = p + d → rdNum (cc ty x) u p' v = R → I1 o 4 = nI p' → I1 (o + 2) = I (o + 2) → I1 o 3 = I o 3 → o_ft o I I1 → mm_Gi mX5_readNumber (fun q J => q = (if p < R.1 then 1 else 0) ∧ J o 4 = nI R.1 ∧ J (o + 2) = upd (I (o + 2)) i (nI R.2) ∧ J o 3 = I o 3 ∧ o_ft o I J) 4 [(3, .int (nI d)), (2, .int (nI v)), (0, .ref o), (1, .int (nI i))] [] S S I1 := by
    intro u
    induction u with
    | zero =>
      intro d v p' I1 hdu hp' hR g1 g2 g3 g4
      have hd : d ≤ 3 := by omega
      refine mm_iload_n dX5_readNumber_4 rfl rfl ?_
      refine mm_iconst 3 dX5_readNumber_5 rfl ?_
      refine mm_icmp_ge 52 dX5_readNumber_6 (by decide) (fun c_6 => ?_) (fun c_6 => absurd (nI_le (a := 3) (by omega) (by omega)) c_6)
      exact mm_G.at (fin d v p' I1 hd hp' hR.symm g1 g2 g3 g4) (mm_s1 rfl (mm_s1 rfl (mm_s1 rfl (mm_s1 rfl mm_s0))))
    | succ u ih =>
      intro d v p' I1 hdu hp' hR g1 g2 g3 g4
      have hcp := hc p'
      refine mm_iload_n dX5_readNumber_4 rfl rfl ?_
      refine mm_iconst 3 dX5_readNumber_5 rfl ?_
      refine mm_icmp_ge 52 dX5_readNumber_6 (by decide) (fun c_6 => absurd c_6 (nI_ge (b := 3) (by omega) (by omega))) (fun c_6 => ?_)
      refine mm_aload_n dX5_readNumber_9 rfl rfl ?_
      refine mm_Vi (N := mX5_sign) (ci := 5) (as := []) dX5_readNumber_10 lk_X5_31 okX5_sign (by decide) rfl (by decide) rfl (by assumption) rfl (by decide) (c_sign hO0 (g4.tx hT) g1 (by omega)) (fun r1 J1 hq => ?_)
      obtain ⟨rfl, hJ⟩ := hq
      subst J1
      refine mm_bipush 48 dX5_readNumber_13 rfl ?_
      refine mm_bipush 57 dX5_readNumber_15 rfl ?_
      refine mm_SNi (N := mX7_within) (as := [_, _, _]) dX5_readNumber_17 lk_X5_18 okX7_within (by decide) rfl rfl (by decide) c_within (fun r2 J2 hq => ?_)
      obtain ⟨rfl, hJ⟩ := hq
      subst J2
      refine mm_if_eq 52 dX5_readNumber_20 (by decide) (fun c_20 => ?_) (fun c_20 => ?_)
      · skip
        have n1 := if_no c_20
        have n2 : ¬ (48 ≤ cc ty x p' ∧ cc ty x p' ≤ 57) := fun q => n1 ⟨nI_le (a := 48) q.1 (by omega), nI_le (b := 57) q.2 (by omega)⟩
        rw [rdNum_no n2] at hR
        exact mm_G.at (fin d v p' I1 (by omega) hp' hR.symm g1 g2 g3 g4) (mm_s1 rfl (mm_s1 rfl (mm_s1 rfl (mm_s1 rfl mm_s0))))
      · skip
        have y1 := if_yes c_20
        have y2 : 48 ≤ cc ty x p' ∧ cc ty x p' ≤ 57 := ⟨(nI_leI (a := 48) (by omega) (by omega)).mp y1.1, (nI_leI (b := 57) (by omega) (by omega)).mp y1.2⟩
        rw [rdNum_yes y2] at hR
        refine mm_iload_n dX5_readNumber_23 rfl rfl ?_
        refine mm_bipush 10 dX5_readNumber_24 rfl ?_
        refine mm_imul dX5_readNumber_26 ?_
        refine mm_tope (y := nI (v * 10)) (pk_mul v 10) ?_
        refine mm_aload_n dX5_readNumber_27 rfl rfl ?_
        refine mm_Vi (N := mX5_sign) (ci := 5) (as := []) dX5_readNumber_28 lk_X5_31 okX5_sign (by decide) rfl (by decide) rfl (by assumption) rfl (by first | decide | (simp [Value.category])) (c_sign hO0 (g4.tx hT) g1 (by omega)) (fun r1 J1 hq => ?_)
        obtain ⟨rfl, hJ⟩ := hq
        subst J1
        refine mm_bipush 48 dX5_readNumber_31 rfl ?_
        refine mm_isub dX5_readNumber_33 ?_
        refine mm_tope (y := nI (cc ty x p' - 48)) (pk_sub (b := 48) y2.1) ?_
        refine mm_iadd dX5_readNumber_34 ?_
        refine mm_tope (y := nI (10 * v + (cc ty x p' - 48))) ((nI_add _ _).trans (congrArg nI (by omega))) ?_
        refine mm_istore_n dX5_readNumber_35 rfl (Nat.le_of_ble_eq_true rfl) ?_
        refine mm_aload_n dX5_readNumber_36 rfl rfl ?_
        refine mm_dup dX5_readNumber_37 rfl ?_
        refine mm_getI dX5_readNumber_38 fl_X5_28 rfl (by assumption) ?_
        refine mm_tope (y := nI p') g1 ?_
        refine mm_iconst 1 dX5_readNumber_41 rfl ?_
        refine mm_iadd dX5_readNumber_42 ?_
        refine mm_tope (y := nI (p' + 1)) (nI_1 _) ?_
        refine mm_putI dX5_readNumber_43 fl_X5_28 rfl rfl (by assumption) ?_
        refine mm_iinc 1 dX5_readNumber_46 rfl rfl (Nat.le_of_ble_eq_true rfl) ?_
        rw [nI_1]
        refine mm_goto 4 dX5_readNumber_49 (by decide) ?_
        exact mm_G.at (ih (d + 1) _ (p' + 1) _ (by omega) (by omega) hR mm_wr_s ((mm_wr_row (by omega)).trans g2) ((mm_wr_k (by omega)).trans g3) g4.w4) (mm_s1 rfl (mm_s1 rfl (mm_s1 rfl (mm_s1 rfl mm_s0))))
  refine mm_iconst 0 dX5_readNumber_0 rfl ?_
  refine mm_istore_n dX5_readNumber_1 rfl (Nat.le_of_ble_eq_true rfl) ?_
  refine mm_iconst 0 dX5_readNumber_2 rfl ?_
  refine mm_istore_n dX5_readNumber_3 rfl (Nat.le_of_ble_eq_true rfl) ?_
  exact mm_G.at (loop 3 0 0 p I (by omega) (by omega) hR0 h4 rfl rfl o_ft.rf) (mm_s1 rfl (mm_s1 rfl (mm_s1 rfl (mm_s1 rfl mm_s0))))
set_option maxRecDepth 100000 in
set_option maxHeartbeats 4000000 in
theorem c_numbersOf {S : mm_S} {I : mm_I} {o k : Nat} (hok : (S.2.1 o).1 = 5) (hk : k ≤ 126) : mm_ci mX5_numbersOf [.ref o, .int (nI k)] S I (fun q J => q = nI (nOf k) ∧ J = I) := by
  refine mm_ci.of okX5_numbersOf rfl (Nat.le_of_ble_eq_true rfl) (lv := [(0, .ref o), (1, .int (nI k))]) rfl ?_
  refine mm_iload_n dX5_numbersOf_0 rfl rfl ?_
  by_cases e98 : k = 98
  · subst e98
    refine mm_lookup (off := 59) 60 dX5_numbersOf_1 (by decide) (by decide) (by decide) ?_
    refine mm_iconst 1 dX5_numbersOf_60 rfl ?_
    refine mm_iret dX5_numbersOf_61 rfl ?_
    first
      | exact ⟨rfl, _, rfl, congrArg nI (nOf_out hk hout).symm, rfl⟩
      | exact ⟨rfl, _, rfl, rfl, rfl⟩
  · skip
    by_cases e108 : k = 108
    · subst e108
      refine mm_lookup (off := 53) 54 dX5_numbersOf_1 (by decide) (by decide) (by decide) ?_
      refine mm_iconst 2 dX5_numbersOf_54 rfl ?_
      refine mm_iret dX5_numbersOf_55 rfl ?_
      first
        | exact ⟨rfl, _, rfl, congrArg nI (nOf_out hk hout).symm, rfl⟩
        | exact ⟨rfl, _, rfl, rfl, rfl⟩
    · skip
      by_cases e109 : k = 109
      · subst e109
        refine mm_lookup (off := 57) 58 dX5_numbersOf_1 (by decide) (by decide) (by decide) ?_
        refine mm_iconst 1 dX5_numbersOf_58 rfl ?_
        refine mm_iret dX5_numbersOf_59 rfl ?_
        first
          | exact ⟨rfl, _, rfl, congrArg nI (nOf_out hk hout).symm, rfl⟩
          | exact ⟨rfl, _, rfl, rfl, rfl⟩
      · skip
        by_cases e115 : k = 115
        · subst e115
          refine mm_lookup (off := 51) 52 dX5_numbersOf_1 (by decide) (by decide) (by decide) ?_
          refine mm_iconst 4 dX5_numbersOf_52 rfl ?_
          refine mm_iret dX5_numbersOf_53 rfl ?_
          first
            | exact ⟨rfl, _, rfl, congrArg nI (nOf_out hk hout).symm, rfl⟩
            | exact ⟨rfl, _, rfl, rfl, rfl⟩
        · skip
          by_cases e116 : k = 116
          · subst e116
            refine mm_lookup (off := 55) 56 dX5_numbersOf_1 (by decide) (by decide) (by decide) ?_
            refine mm_iconst 2 dX5_numbersOf_56 rfl ?_
            refine mm_iret dX5_numbersOf_57 rfl ?_
            first
              | exact ⟨rfl, _, rfl, congrArg nI (nOf_out hk hout).symm, rfl⟩
              | exact ⟨rfl, _, rfl, rfl, rfl⟩
          · skip
            have hout : k ≠ 98 ∧ k ≠ 108 ∧ k ≠ 109 ∧ k ≠ 115 ∧ k ≠ 116 := ⟨e98, e108, e109, e115, e116⟩
            refine mm_lookup 62 dX5_numbersOf_1 (by decide) (lk_out hk hout) (by decide) ?_
            refine mm_iconst 0 dX5_numbersOf_62 rfl ?_
            refine mm_iret dX5_numbersOf_63 rfl ?_
            first
              | exact ⟨rfl, _, rfl, congrArg nI (nOf_out hk hout).symm, rfl⟩
              | exact ⟨rfl, _, rfl, rfl, rfl⟩
