/-! THE CLASS: Orders, an order is read; type, clearText -/

set_option maxRecDepth 100000 in
set_option maxHeartbeats 4000000 in
theorem c_read {S : mm_S} {I : mm_I} {o ty p : Nat} {x : Nat → Nat} {R : Bool × Nat × (Nat → Int32)} (hO : mm_ord S o) (hT : ot_at I o ty x) (hp : p ≤ 60) (hR0 : rdO (cc ty x) p (I (o + 2)) = R) : mm_ci mX5_read [.ref o, .int (nI p)] S I (fun r J => r = (if R.1 = true then 1 else 0) ∧ J o 4 = nI R.2.1 ∧ J (o + 2) = R.2.2 ∧ J o 3 = nI (cc ty x p) ∧ o_ft o I J) := by
  have hO0 := hO
  obtain ⟨ok, op0, op1, ok1, ok2⟩ := hO
  have hc : ∀ q, cc ty x q ≤ 126 := fun q => cc_126 hT
  have hty := hT.2.1
  have hz : ∀ q, ty ≤ q → cc ty x q = 0 := fun q h => cc_0 h
  have hn4 := nOf_le (cc ty x p)
  generalize hnn : nOf (cc ty x p) = n at hn4
  refine mm_ci.of okX5_read rfl (Nat.le_of_ble_eq_true rfl) (lv := [(0, .ref o), (1, .int (nI p))]) rfl ?_
  have dn : ∀ (i q : Nat) (v : Nat → Int32) (I1 : mm_I), i + 1 = n → R = (true, q, v) → I1 o 4 = nI q → I1 (o + 2) = v → I1 o 3 = nI (cc ty x p) → o_ft o I I1 → mm_Gi mX5_read (fun r J => r = (if R.1 = true then 1 else 0) ∧ J o 4 = nI R.2.1 ∧ J (o + 2) = R.2.2 ∧ J o 3 = nI (cc ty x p) ∧ o_ft o I J) 40 [(3, .int (nI (i + 1))), (2, .int (nI n)), (0, .ref o), (1, .int (nI p))] [] S S I1 := by
    intro i q v I1 hin hR g1 g2 g3 g4
    refine mm_iload_n dX5_read_40 rfl rfl ?_
    refine mm_iload_n dX5_read_41 rfl rfl ?_
    refine mm_icmp_ge 96 dX5_read_42 (by decide) (fun c_42 => ?_) (fun c_42 => absurd (nI_le (by omega) (by omega)) c_42)
    refine mm_iconst 1 dX5_read_96 rfl ?_
    refine mm_zret dX5_read_97 rfl (by first | exact Or.inl rfl | exact Or.inr rfl | assumption) ?_
    exact ⟨rfl, _, rfl, by rw [hR]; rfl, by rw [hR]; exact g1, by rw [hR]; exact g2, g3, g4⟩
  have loop : ∀ (u i q : Nat) (v : Nat → Int32) (I1 : mm_I), i + u + 1 = n → rdF (cc ty x) u (i + 1) (rdNum (cc ty x) 3 q 0).1 (decide (q < (rdNum (cc ty x) 3 q 0).1)) (upd v i (nI (rdNum (cc ty x) 3 q 0).2)) = R → q ≤ 61 → I1 o 4 = nI q → I1 (o + 2) = v → I1 o 3 = nI (cc ty x p) → o_ft o I I1 → mm_Gi mX5_read (fun r J => r = (if R.1 = true then 1 else 0) ∧ J o 4 = nI R.2.1 ∧ J (o + 2) = R.2.2 ∧ J o 3 = nI (cc ty x p) ∧ o_ft o I J) 40 [(3, .int (nI i)), (2, .int (nI n)), (0, .ref o), (1, .int (nI p))] [] S S I1 := by
    intro u
    induction u with
    | zero =>
      intro i q v I1 hin hR hq61 g1 g2 g3 g4
      have hrl := rdNum_le hz 3 q 0
      generalize hR2 : (rdNum (cc ty x) 3 q 0) = R2 at hR hrl
      refine mm_iload_n dX5_read_40 rfl rfl ?_
      refine mm_iload_n dX5_read_41 rfl rfl ?_
      refine mm_icmp_ge 96 dX5_read_42 (by decide) (fun c_42 => absurd c_42 (nI_ge (by omega) (by omega))) (fun c_42 => ?_)
      refine mm_iload_n dX5_read_45 rfl rfl ?_
      refine mm_iload_n dX5_read_46 rfl rfl ?_
      refine mm_iconst 1 dX5_read_47 rfl ?_
      refine mm_isub dX5_read_48 ?_
      refine mm_tope (y := nI (n - 1)) (pk_sub (b := 1) (by omega)) ?_
      refine mm_icmp_ne 57 dX5_read_49 (by decide) (fun c_49 => absurd (congrArg nI (by omega)) c_49) (fun c_49 => ?_)
      refine mm_bipush 59 dX5_read_52 rfl ?_
      refine mm_goto 59 dX5_read_54 (by decide) ?_
      refine mm_istore dX5_read_59 (Nat.le_of_ble_eq_true rfl) ?_
      refine mm_aload_n dX5_read_61 rfl rfl ?_
      refine mm_iload_n dX5_read_62 rfl rfl ?_
      refine mm_Vi (N := mX5_readNumber) (ci := 5) (as := [_]) dX5_read_63 lk_X5_42 okX5_readNumber (by decide) rfl (by decide) rfl (by assumption) rfl (by decide) (c_readNumber (R := R2) hO0 (g4.tx hT) g1 (by omega) (by omega) hR2) (fun r1 J2 hq => ?_)
      obtain ⟨rfl, k1, k2, k3, k4⟩ := hq
      have g5 := g4.tr k4
      refine mm_if_eq 78 dX5_read_66 (by decide) (fun c_66 => ?_) (fun c_66 => ?_)
      · skip
        have hb := if_no c_66
        have hRb : R = (false, R2.1, upd v i (nI R2.2)) := by rw [← hR, decide_eq_false hb, rdF_f]
        refine mm_iconst 0 dX5_read_78 rfl ?_
        refine mm_zret dX5_read_79 rfl (by first | exact Or.inl rfl | exact Or.inr rfl | assumption) ?_
        rw [g2] at k2
        exact ⟨rfl, _, rfl, by rw [hRb]; rfl, by rw [hRb]; exact k1, by rw [hRb]; exact k2, k3.trans g3, g5⟩
      · skip
        have hb := if_yes c_66
        rw [decide_eq_true hb] at hR
        refine mm_aload_n dX5_read_69 rfl rfl ?_
        refine mm_Vi (N := mX5_sign) (ci := 5) (as := []) dX5_read_70 lk_X5_31 okX5_sign (by decide) rfl (by decide) rfl (by assumption) rfl (by decide) (c_sign hO0 (g5.tx hT) k1 (by omega)) (fun r3 J3 hq => ?_)
        obtain ⟨rfl, hJ⟩ := hq
        subst J3
        refine mm_iload dX5_read_73 rfl ?_
        refine mm_icmp_eq 80 dX5_read_75 (by decide) (fun c_75 => ?_) (fun c_75 => ?_)
        · skip
          have he : cc ty x R2.1 = 59 := (nI_eq (b := 59) (by have := hc R2.1; omega) (by omega)).mp c_75
          have hlt := cc_lt (ty := ty) (p := R2.1) (x := x) (by omega)
          have hRt : R = (true, R2.1 + 1, upd v i (nI R2.2)) := by rw [← hR]; exact if_pos ⟨rfl, he⟩
          refine mm_aload_n dX5_read_80 rfl rfl ?_
          refine mm_dup dX5_read_81 rfl ?_
          refine mm_getI dX5_read_82 fl_X5_28 rfl (by assumption) ?_
          refine mm_tope (y := nI R2.1) k1 ?_
          refine mm_iconst 1 dX5_read_85 rfl ?_
          refine mm_iadd dX5_read_86 ?_
          refine mm_tope (y := nI (R2.1 + 1)) (nI_1 _) ?_
          refine mm_putI dX5_read_87 fl_X5_28 rfl rfl (by assumption) ?_
          refine mm_iinc 1 dX5_read_90 rfl rfl (Nat.le_of_ble_eq_true rfl) ?_
          rw [nI_1]
          refine mm_goto 40 dX5_read_93 (by decide) ?_
          rw [g2] at k2
          exact mm_G.at (dn i (R2.1 + 1) _ _ (by omega) hRt mm_wr_s ((mm_wr_row (by omega)).trans k2) ((mm_wr_k (by omega)).trans (k3.trans g3)) g5.w4) (mm_s1 rfl (mm_s1 rfl (mm_s1 rfl (mm_s1 rfl mm_s0))))
        · skip
          have he : ¬ cc ty x R2.1 = 59 := fun q => c_75 (by rw [q]; rfl)
          have hRb : R = (false, R2.1, upd v i (nI R2.2)) := by rw [← hR]; exact if_neg (fun q => he q.2)
          refine mm_iconst 0 dX5_read_78 rfl ?_
          refine mm_zret dX5_read_79 rfl (by first | exact Or.inl rfl | exact Or.inr rfl | assumption) ?_
          rw [g2] at k2
          exact ⟨rfl, _, rfl, by rw [hRb]; rfl, by rw [hRb]; exact k1, by rw [hRb]; exact k2, k3.trans g3, g5⟩
    | succ u ih =>
      intro i q v I1 hin hR hq61 g1 g2 g3 g4
      have hrl := rdNum_le hz 3 q 0
      generalize hR2 : (rdNum (cc ty x) 3 q 0) = R2 at hR hrl
      refine mm_iload_n dX5_read_40 rfl rfl ?_
      refine mm_iload_n dX5_read_41 rfl rfl ?_
      refine mm_icmp_ge 96 dX5_read_42 (by decide) (fun c_42 => absurd c_42 (nI_ge (by omega) (by omega))) (fun c_42 => ?_)
      refine mm_iload_n dX5_read_45 rfl rfl ?_
      refine mm_iload_n dX5_read_46 rfl rfl ?_
      refine mm_iconst 1 dX5_read_47 rfl ?_
      refine mm_isub dX5_read_48 ?_
      refine mm_tope (y := nI (n - 1)) (pk_sub (b := 1) (by omega)) ?_
      refine mm_icmp_ne 57 dX5_read_49 (by decide) (fun c_49 => ?_) (fun c_49 => absurd c_49 (fun q => absurd ((nI_eq (a := i) (b := n - 1) (by omega) (by omega)).mp q) (by omega)))
      refine mm_bipush 44 dX5_read_57 rfl ?_
      refine mm_istore dX5_read_59 (Nat.le_of_ble_eq_true rfl) ?_
      refine mm_aload_n dX5_read_61 rfl rfl ?_
      refine mm_iload_n dX5_read_62 rfl rfl ?_
      refine mm_Vi (N := mX5_readNumber) (ci := 5) (as := [_]) dX5_read_63 lk_X5_42 okX5_readNumber (by decide) rfl (by decide) rfl (by assumption) rfl (by decide) (c_readNumber (R := R2) hO0 (g4.tx hT) g1 (by omega) (by omega) hR2) (fun r1 J2 hq => ?_)
      obtain ⟨rfl, k1, k2, k3, k4⟩ := hq
      have g5 := g4.tr k4
      refine mm_if_eq 78 dX5_read_66 (by decide) (fun c_66 => ?_) (fun c_66 => ?_)
      · skip
        have hb := if_no c_66
        have hRb : R = (false, R2.1, upd v i (nI R2.2)) := by rw [← hR, decide_eq_false hb, rdF_f]
        refine mm_iconst 0 dX5_read_78 rfl ?_
        refine mm_zret dX5_read_79 rfl (by first | exact Or.inl rfl | exact Or.inr rfl | assumption) ?_
        rw [g2] at k2
        exact ⟨rfl, _, rfl, by rw [hRb]; rfl, by rw [hRb]; exact k1, by rw [hRb]; exact k2, k3.trans g3, g5⟩
      · skip
        have hb := if_yes c_66
        rw [decide_eq_true hb] at hR
        refine mm_aload_n dX5_read_69 rfl rfl ?_
        refine mm_Vi (N := mX5_sign) (ci := 5) (as := []) dX5_read_70 lk_X5_31 okX5_sign (by decide) rfl (by decide) rfl (by assumption) rfl (by decide) (c_sign hO0 (g5.tx hT) k1 (by omega)) (fun r3 J3 hq => ?_)
        obtain ⟨rfl, hJ⟩ := hq
        subst J3
        refine mm_iload dX5_read_73 rfl ?_
        refine mm_icmp_eq 80 dX5_read_75 (by decide) (fun c_75 => ?_) (fun c_75 => ?_)
        · skip
          have he : cc ty x R2.1 = 44 := (nI_eq (b := 44) (by have := hc R2.1; omega) (by omega)).mp c_75
          have hlt := cc_lt (ty := ty) (p := R2.1) (x := x) (by omega)
          have hRt : rdF (cc ty x) u (i + 1 + 1) (rdNum (cc ty x) 3 (R2.1 + 1) 0).1 (decide (R2.1 + 1 < (rdNum (cc ty x) 3 (R2.1 + 1) 0).1)) (upd (upd v i (nI R2.2)) (i + 1) (nI (rdNum (cc ty x) 3 (R2.1 + 1) 0).2)) = R := by rw [← hR]; exact (if_pos ⟨rfl, he⟩).symm
          refine mm_aload_n dX5_read_80 rfl rfl ?_
          refine mm_dup dX5_read_81 rfl ?_
          refine mm_getI dX5_read_82 fl_X5_28 rfl (by assumption) ?_
          refine mm_tope (y := nI R2.1) k1 ?_
          refine mm_iconst 1 dX5_read_85 rfl ?_
          refine mm_iadd dX5_read_86 ?_
          refine mm_tope (y := nI (R2.1 + 1)) (nI_1 _) ?_
          refine mm_putI dX5_read_87 fl_X5_28 rfl rfl (by assumption) ?_
          refine mm_iinc 1 dX5_read_90 rfl rfl (Nat.le_of_ble_eq_true rfl) ?_
          rw [nI_1]
          refine mm_goto 40 dX5_read_93 (by decide) ?_
          rw [g2] at k2
          exact mm_G.at (ih (i + 1) (R2.1 + 1) _ _ (by omega) hRt (by omega) mm_wr_s ((mm_wr_row (by omega)).trans k2) ((mm_wr_k (by omega)).trans (k3.trans g3)) g5.w4) (mm_s1 rfl (mm_s1 rfl (mm_s1 rfl (mm_s1 rfl mm_s0))))
        · skip
          have he : ¬ cc ty x R2.1 = 44 := fun q => c_75 (by rw [q]; rfl)
          have hRb : R = (false, R2.1, upd v i (nI R2.2)) := by rw [← hR]; exact if_neg (fun q => he q.2)
          refine mm_iconst 0 dX5_read_78 rfl ?_
          refine mm_zret dX5_read_79 rfl (by first | exact Or.inl rfl | exact Or.inr rfl | assumption) ?_
          rw [g2] at k2
          exact ⟨rfl, _, rfl, by rw [hRb]; rfl, by rw [hRb]; exact k1, by rw [hRb]; exact k2, k3.trans g3, g5⟩
  refine mm_aload_n dX5_read_0 rfl rfl ?_
  refine mm_iload_n dX5_read_1 rfl rfl ?_
  refine mm_putI dX5_read_2 fl_X5_28 rfl rfl (by assumption) ?_
  refine mm_aload_n dX5_read_5 rfl rfl ?_
  refine mm_aload_n dX5_read_6 rfl rfl ?_
  refine mm_Vi (N := mX5_sign) (ci := 5) (as := []) dX5_read_7 lk_X5_31 okX5_sign (by decide) rfl (by decide) rfl (by assumption) rfl (by first | decide | (simp [Value.category])) (c_sign (p := p) hO0 (o_ft.rf.w4.tx hT) mm_wr_s (by omega)) (fun r1 J1 hq => ?_)
  obtain ⟨rfl, hJ⟩ := hq
  subst J1
  refine mm_putI dX5_read_10 fl_X5_35 rfl rfl (by assumption) ?_
  refine mm_aload_n dX5_read_13 rfl rfl ?_
  refine mm_aload_n dX5_read_14 rfl rfl ?_
  refine mm_getI dX5_read_15 fl_X5_35 rfl (by assumption) ?_
  refine mm_tope (y := nI (cc ty x p)) mm_wr_s ?_
  refine mm_Vi (N := mX5_numbersOf) (ci := 5) (as := [_]) dX5_read_18 lk_X5_38 okX5_numbersOf (by decide) rfl (by decide) rfl (by assumption) rfl (by decide) (c_numbersOf ok (hc p)) (fun r2 J2 hq => ?_)
  obtain ⟨rfl, hJ⟩ := hq
  subst J2
  rw [hnn]
  refine mm_istore_n dX5_read_21 rfl (Nat.le_of_ble_eq_true rfl) ?_
  refine mm_iload_n dX5_read_22 rfl rfl ?_
  refine mm_if_ne 28 dX5_read_23 (by decide) (fun c_23 => ?_) (fun c_23 => ?_)
  · skip
    have hne : ¬ n = 0 := fun q => c_23 (by rw [q]; rfl)
    have hR1 : rdF (cc ty x) (n - 1) 1 (rdNum (cc ty x) 3 (p + 1) 0).1 (decide (p + 1 < (rdNum (cc ty x) 3 (p + 1) 0).1)) (upd (I (o + 2)) 0 (nI (rdNum (cc ty x) 3 (p + 1) 0).2)) = R := by
      rw [← hR0]
      unfold rdO
      rw [hnn, if_neg hne]
    refine mm_aload_n dX5_read_28 rfl rfl ?_
    refine mm_dup dX5_read_29 rfl ?_
    refine mm_getI dX5_read_30 fl_X5_28 rfl (by assumption) ?_
    refine mm_tope (y := nI p) ((mm_wr_k (by omega)).trans mm_wr_s) ?_
    refine mm_iconst 1 dX5_read_33 rfl ?_
    refine mm_iadd dX5_read_34 ?_
    refine mm_tope (y := nI (p + 1)) (nI_1 _) ?_
    refine mm_putI dX5_read_35 fl_X5_28 rfl rfl (by assumption) ?_
    refine mm_iconst 0 dX5_read_38 rfl ?_
    refine mm_istore_n dX5_read_39 rfl (Nat.le_of_ble_eq_true rfl) ?_
    exact mm_G.at (loop (n - 1) 0 (p + 1) _ _ (by omega) hR1 (by omega) mm_wr_s (by rw [mm_wr_row (by omega), mm_wr_row (by omega), mm_wr_row (by omega)]) ((mm_wr_k (by omega)).trans mm_wr_s) o_ft.rf.w4.w3.w4) (mm_s1 rfl (mm_s1 rfl (mm_s1 rfl (mm_s1 rfl mm_s0))))
  · skip
    have he0 : n = 0 := (nI_eq (b := 0) (by omega) (by omega)).mp c_23
    have hR1 : R = (false, p, I (o + 2)) := by
      rw [← hR0]
      unfold rdO
      rw [hnn, if_pos he0]
    refine mm_iconst 0 dX5_read_26 rfl ?_
    refine mm_zret dX5_read_27 rfl (by first | exact Or.inl rfl | exact Or.inr rfl | assumption) ?_
    exact ⟨rfl, _, rfl, by rw [hR1]; rfl, by rw [hR1]; exact (mm_wr_k (by omega)).trans mm_wr_s, by rw [hR1, mm_wr_row (by omega), mm_wr_row (by omega)], mm_wr_s, o_ft.rf.w4.w3⟩
set_option maxRecDepth 100000 in
set_option maxHeartbeats 4000000 in
theorem c_numberAt {S : mm_S} {I : mm_I} {o i : Nat} (hO : mm_ord S o) (hi : i < 4) : mm_ci mX5_numberAt [.ref o, .int (nI i)] S I (fun q J => q = I (o + 2) i ∧ J = I) := by
  obtain ⟨ok, op0, op1, ok1, ok2⟩ := hO
  refine mm_ci.of okX5_numberAt rfl (Nat.le_of_ble_eq_true rfl) (lv := [(0, .ref o), (1, .int (nI i))]) rfl ?_
  refine mm_iload_n dX5_numberAt_0 rfl rfl ?_
  refine mm_if_lt 22 dX5_numberAt_1 (by decide) (fun c_1 => absurd c_1 (nI_pos (by omega))) (fun c_1 => ?_)
  refine mm_iload_n dX5_numberAt_4 rfl rfl ?_
  refine mm_aload_n dX5_numberAt_5 rfl rfl ?_
  refine mm_getR dX5_numberAt_6 fl_X5_15 rfl (by assumption) (by assumption) ?_
  refine mm_alen (t := 0) dX5_numberAt_9 (by assumption) (by decide) 4 rfl ?_
  refine mm_icmp_ge 22 dX5_numberAt_10 (by decide) (fun c_10 => absurd c_10 (nI_ge (b := 4) (by omega) (by omega))) (fun c_10 => ?_)
  refine mm_aload_n dX5_numberAt_13 rfl rfl ?_
  refine mm_getR dX5_numberAt_14 fl_X5_15 rfl (by assumption) (by assumption) ?_
  refine mm_iload_n dX5_numberAt_17 rfl rfl ?_
  refine mm_iald dX5_numberAt_18 (by assumption) (vp_in_nI (n := i) (by omega) (by omega)) ?_
  refine mm_tope (y := I (o + 2) i) (congrArg (I (o + 2)) (nI_clamp (by omega))) ?_
  refine mm_goto 23 dX5_numberAt_19 (by decide) ?_
  refine mm_iret dX5_numberAt_23 rfl ?_
  exact ⟨rfl, _, rfl, rfl, rfl⟩
set_option maxRecDepth 100000 in
set_option maxHeartbeats 4000000 in
theorem c_append {S : mm_S} {I : mm_I} {o ty : Nat} {c : Int32} (hO : mm_ord S o) (h2 : I o 2 = nI ty) (hty : ty ≤ 60) : mm_ci mX5_append [.ref o, .int c] S I (fun q J => if ¬ (32 ≤ c ∧ c ≤ 126) then q = -2000000001 ∧ J = I else if ty = 60 then q = -2000000003 ∧ J = I else q = nI (ty + 1) ∧ J = mm_wr (mm_wr I (o + 1) ty c) o 2 (nI (ty + 1))) := by
  obtain ⟨ok, op0, op1, ok1, ok2⟩ := hO
  refine mm_ci.of okX5_append rfl (Nat.le_of_ble_eq_true rfl) (lv := [(0, .ref o), (1, .int c)]) rfl ?_
  refine mm_iload_n dX5_append_0 rfl rfl ?_
  refine mm_bipush 32 dX5_append_1 rfl ?_
  refine mm_bipush 126 dX5_append_3 rfl ?_
  refine mm_SNi (N := mX7_within) (as := [_, _, _]) dX5_append_5 lk_X5_18 okX7_within (by decide) rfl rfl (by decide) c_within (fun r1 J1 hq => ?_)
  obtain ⟨rfl, hJ⟩ := hq
  subst J1
  refine mm_if_ne 14 dX5_append_8 (by decide) (fun c_8 => ?_) (fun c_8 => ?_)
  · skip
    have y1 := if_yes c_8
    refine mm_aload_n dX5_append_14 rfl rfl ?_
    refine mm_getI dX5_append_15 fl_X5_23 rfl (by assumption) ?_
    refine mm_tope (y := nI ty) h2 ?_
    refine mm_if_lt 33 dX5_append_18 (by decide) (fun c_18 => absurd c_18 (nI_pos (by omega))) (fun c_18 => ?_)
    refine mm_aload_n dX5_append_21 rfl rfl ?_
    refine mm_getI dX5_append_22 fl_X5_23 rfl (by assumption) ?_
    refine mm_tope (y := nI ty) h2 ?_
    refine mm_aload_n dX5_append_25 rfl rfl ?_
    refine mm_getR dX5_append_26 fl_X5_9 rfl (by assumption) (by assumption) ?_
    refine mm_alen (t := 0) dX5_append_29 (by assumption) (by decide) 60 rfl ?_
    refine mm_icmp_lt 36 dX5_append_30 (by decide) (fun c_30 => ?_) (fun c_30 => ?_)
    · skip
      have hlt : ty < 60 := (nI_ltI (b := 60) (by omega) (by omega)).mp c_30
      refine mm_aload_n dX5_append_36 rfl rfl ?_
      refine mm_getR dX5_append_37 fl_X5_9 rfl (by assumption) (by assumption) ?_
      refine mm_aload_n dX5_append_40 rfl rfl ?_
      refine mm_getI dX5_append_41 fl_X5_23 rfl (by assumption) ?_
      refine mm_tope (y := nI ty) h2 ?_
      refine mm_iload_n dX5_append_44 rfl rfl ?_
      refine mm_iast dX5_append_45 (by assumption) (vp_in_nI (n := ty) (by omega) (by omega)) ?_
      rw [nI_clamp (by omega)]
      refine mm_aload_n dX5_append_46 rfl rfl ?_
      refine mm_dup dX5_append_47 rfl ?_
      refine mm_getI dX5_append_48 fl_X5_23 rfl (by assumption) ?_
      refine mm_tope (y := nI ty) ((mm_wr_a (by omega)).trans h2) ?_
      refine mm_iconst 1 dX5_append_51 rfl ?_
      refine mm_iadd dX5_append_52 ?_
      refine mm_tope (y := nI (ty + 1)) (nI_1 _) ?_
      refine mm_putI dX5_append_53 fl_X5_23 rfl rfl (by assumption) ?_
      refine mm_aload_n dX5_append_56 rfl rfl ?_
      refine mm_getI dX5_append_57 fl_X5_23 rfl (by assumption) ?_
      refine mm_tope (y := nI (ty + 1)) mm_wr_s ?_
      refine mm_iret dX5_append_60 rfl ?_
      exact ⟨rfl, _, rfl, Eq.mpr ((if_neg (fun q => q y1)).trans (if_neg (Nat.ne_of_lt hlt))) ⟨rfl, rfl⟩⟩
    · skip
      have he : ty = 60 := by have := Nat.not_lt.mp fun q => c_30 (nI_lt (b := 60) q (by omega)); omega
      refine mm_ldc dX5_append_33 ct_X5_27 ?_
      refine mm_iret dX5_append_35 rfl ?_
      exact ⟨rfl, _, rfl, Eq.mpr ((if_neg (fun q => q y1)).trans (if_pos he)) ⟨rfl, rfl⟩⟩
  · skip
    have n1 := if_no c_8
    refine mm_ldc dX5_append_11 ct_X5_22 ?_
    refine mm_iret dX5_append_13 rfl ?_
    exact ⟨rfl, _, rfl, Eq.mpr (if_pos n1) ⟨rfl, rfl⟩⟩
set_option maxRecDepth 100000 in
set_option maxHeartbeats 4000000 in
theorem c_empty {S : mm_S} {I : mm_I} {o : Nat} (hO : mm_ord S o) : mm_ci mX5_empty [.ref o] S I (fun q J => q = I o 2 ∧ J = mm_wr I o 2 0) := by
  obtain ⟨ok, op0, op1, ok1, ok2⟩ := hO
  refine mm_ci.of okX5_empty rfl (Nat.le_of_ble_eq_true rfl) (lv := [(0, .ref o)]) rfl ?_
  refine mm_aload_n dX5_empty_0 rfl rfl ?_
  refine mm_getI dX5_empty_1 fl_X5_23 rfl (by assumption) ?_
  refine mm_istore_n dX5_empty_4 rfl (Nat.le_of_ble_eq_true rfl) ?_
  refine mm_aload_n dX5_empty_5 rfl rfl ?_
  refine mm_iconst 0 dX5_empty_6 rfl ?_
  refine mm_putI dX5_empty_7 fl_X5_23 rfl rfl (by assumption) ?_
  refine mm_iload_n dX5_empty_10 rfl rfl ?_
  refine mm_iret dX5_empty_11 rfl ?_
  exact ⟨rfl, _, rfl, rfl, rfl⟩
