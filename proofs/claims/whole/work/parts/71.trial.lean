/-! THE CLASS: Trial -/
def mm_tri (S : mm_S) (t : Nat) : Prop := (S.2.1 t).1 = 6 ∧ S.2.2 t 0 = some (t + 1) ∧ mm_est S (t + 1)
def tr_fr (t o : Nat) (I J : mm_I) : Prop := (∀ c, c < t ∨ t + 44 ≤ c → c ≠ o → c ≠ o + 2 → J c = I c) ∧ ∀ j, j ≠ 3 → j ≠ 4 → J o j = I o j
theorem tr_fr.rf {t o : Nat} {I : mm_I} : tr_fr t o I I := ⟨fun _ _ _ _ => rfl, fun _ _ _ => rfl⟩
theorem tr_fr.tr {t o : Nat} {I J K : mm_I} (h : tr_fr t o I J) (g : tr_fr t o J K) : tr_fr t o I K := ⟨fun c h1 h2 h3 => (g.1 c h1 h2 h3).trans (h.1 c h1 h2 h3), fun j h1 h2 => (g.2 j h1 h2).trans (h.2 j h1 h2)⟩
theorem tr_fr.w {t o k : Nat} {I J : mm_I} {z : Int32} (h : tr_fr t o I J) (ho : o + 3 ≤ t) : tr_fr t o I (mm_wr J t k z) := ⟨fun c h1 h2 h3 => by rw [mm_wr_row (by omega)]; exact h.1 c h1 h2 h3, fun j h1 h2 => by rw [mm_wr_a (by omega)]; exact h.2 j h1 h2⟩
theorem tr_fr.of {t o : Nat} {I J : mm_I} (h : o_ft o I J) : tr_fr t o I J := ⟨fun c _ h2 h3 => h.1 c h2 h3, h.2⟩
theorem tr_fr.e {t o : Nat} {I J : mm_I} (h : e_fr (t + 1) I J) (ho : o + 3 ≤ t) : tr_fr t o I J := ⟨fun c h1 h2 h3 => h c (by omega), fun j h1 h2 => by rw [h o (by omega)]⟩
theorem tr_fr.tx {t o ty : Nat} {x : Nat → Nat} {I J : mm_I} (h : tr_fr t o I J) (ho : o + 3 ≤ t) (g : ot_at I o ty x) : ot_at J o ty x := ⟨by rw [h.2 2 (by decide) (by decide)]; exact g.1, g.2.1, fun p hp => by rw [h.1 (o + 1) (by omega) (by omega) (by omega)]; exact g.2.2 p hp⟩
theorem callE {s : Nat → Int32} {v : Nat → Int32} : sp_call s 108 v = sp_lot s (v 0) (v 1) ∧ sp_call s 115 v = sp_sell s (v 0) (v 1) (v 2) (v 3) ∧ sp_call s 116 v = sp_taste s (v 0) (v 1) ∧ sp_call s 109 v = sp_pass s (v 0) ∧ sp_call s 98 v = sp_bottle s (v 0) := ⟨rfl, rfl, rfl, rfl, rfl⟩

set_option maxRecDepth 100000 in
set_option maxHeartbeats 4000000 in
theorem c_answerOf {S : mm_S} {I : mm_I} {t o k : Nat} {s : Nat → Int32} (hT : mm_tri S t) (hO : mm_ord S o) (hs : est_at I (t + 1) s) (hi : Inv s) (h3 : I o 3 = nI k) (hk : nOf k ≠ 0) : mm_ci mX6_answerOf [.ref t, .ref o] S I (e_Q (t + 1) I (sp_call s k (I (o + 2)))) := by
  obtain ⟨tk, tp0, tE⟩ := hT
  have tEk : (S.2.1 (t + 1)).1 = 2 := tE.1
  have ok : (S.2.1 o).1 = 5 := hO.1
  refine mm_ci.of okX6_answerOf rfl (Nat.le_of_ble_eq_true rfl) (lv := [(0, .ref t), (1, .ref o)]) rfl ?_
  refine mm_aload_n dX6_answerOf_0 rfl rfl ?_
  refine mm_iconst 0 dX6_answerOf_1 rfl ?_
  refine mm_Vi (N := mX5_numberAt) (ci := 5) (as := [_]) dX6_answerOf_2 lk_X6_49 okX5_numberAt (by decide) rfl (by decide) rfl (by assumption) rfl (by decide) (c_numberAt (i := 0) hO (by decide)) (fun r0 J1 hq => ?_)
  obtain ⟨rfl, hJ⟩ := hq
  subst J1
  refine mm_istore_n dX6_answerOf_5 rfl (Nat.le_of_ble_eq_true rfl) ?_
  refine mm_aload_n dX6_answerOf_6 rfl rfl ?_
  refine mm_iconst 1 dX6_answerOf_7 rfl ?_
  refine mm_Vi (N := mX5_numberAt) (ci := 5) (as := [_]) dX6_answerOf_8 lk_X6_49 okX5_numberAt (by decide) rfl (by decide) rfl (by assumption) rfl (by decide) (c_numberAt (i := 1) hO (by decide)) (fun r1 J1 hq => ?_)
  obtain ⟨rfl, hJ⟩ := hq
  subst J1
  refine mm_istore_n dX6_answerOf_11 rfl (Nat.le_of_ble_eq_true rfl) ?_
  refine mm_aload_n dX6_answerOf_12 rfl rfl ?_
  refine mm_getI dX6_answerOf_13 fl_X6_53 rfl (by assumption) ?_
  refine mm_tope (y := nI k) h3 ?_
  rcases nOf_cases hk with rfl | rfl | rfl | rfl | rfl
  · rw [callE.1]
    refine mm_tableIn 68 dX6_answerOf_16 (by decide) (by decide) rfl (by decide) ?_
    refine mm_aload_n dX6_answerOf_68 rfl rfl ?_
    refine mm_getR dX6_answerOf_69 fl_X6_12 rfl (by assumption) (by assumption) ?_
    refine mm_iload_n dX6_answerOf_72 rfl rfl ?_
    refine mm_iload_n dX6_answerOf_73 rfl rfl ?_
    refine mm_Vi (N := mX2_addLot) (ci := 2) (as := [_, _]) dX6_answerOf_74 lk_X6_56 okX2_addLot (by decide) rfl (by decide) rfl (by assumption) rfl (by decide) (c_addLot tE hs hi) (fun r9 J9 hq => ?_)
    refine mm_iret dX6_answerOf_77 rfl ?_
    exact ⟨rfl, _, rfl, hq⟩
  · rw [callE.2.1]
    refine mm_tableIn 78 dX6_answerOf_16 (by decide) (by decide) rfl (by decide) ?_
    refine mm_aload_n dX6_answerOf_78 rfl rfl ?_
    refine mm_getR dX6_answerOf_79 fl_X6_12 rfl (by assumption) (by assumption) ?_
    refine mm_iload_n dX6_answerOf_82 rfl rfl ?_
    refine mm_iload_n dX6_answerOf_83 rfl rfl ?_
    refine mm_aload_n dX6_answerOf_84 rfl rfl ?_
    refine mm_iconst 2 dX6_answerOf_85 rfl ?_
    refine mm_Vi (N := mX5_numberAt) (ci := 5) (as := [_]) dX6_answerOf_86 lk_X6_49 okX5_numberAt (by decide) rfl (by decide) rfl (by assumption) rfl (by first | decide | (simp [Value.category])) (c_numberAt (i := 2) hO (by decide)) (fun r2 J1 hq => ?_)
    obtain ⟨rfl, hJ⟩ := hq
    subst J1
    refine mm_aload_n dX6_answerOf_89 rfl rfl ?_
    refine mm_iconst 3 dX6_answerOf_90 rfl ?_
    refine mm_Vi (N := mX5_numberAt) (ci := 5) (as := [_]) dX6_answerOf_91 lk_X6_49 okX5_numberAt (by decide) rfl (by decide) rfl (by assumption) rfl (by first | decide | (simp [Value.category])) (c_numberAt (i := 3) hO (by decide)) (fun r3 J1 hq => ?_)
    obtain ⟨rfl, hJ⟩ := hq
    subst J1
    refine mm_Vi (N := mX2_sellFutures) (ci := 2) (as := [_, _, _, _]) dX6_answerOf_94 lk_X6_60 okX2_sellFutures (by decide) rfl (by decide) rfl (by assumption) rfl (by decide) (c_sellFutures tE hs hi) (fun r9 J9 hq => ?_)
    refine mm_iret dX6_answerOf_97 rfl ?_
    exact ⟨rfl, _, rfl, hq⟩
  · rw [callE.2.2.1]
    refine mm_tableIn 98 dX6_answerOf_16 (by decide) (by decide) rfl (by decide) ?_
    refine mm_aload_n dX6_answerOf_98 rfl rfl ?_
    refine mm_getR dX6_answerOf_99 fl_X6_12 rfl (by assumption) (by assumption) ?_
    refine mm_iload_n dX6_answerOf_102 rfl rfl ?_
    refine mm_iload_n dX6_answerOf_103 rfl rfl ?_
    refine mm_Vi (N := mX2_tasteLot) (ci := 2) (as := [_, _]) dX6_answerOf_104 lk_X6_64 okX2_tasteLot (by decide) rfl (by decide) rfl (by assumption) rfl (by decide) (c_tasteLot tE hs hi) (fun r9 J9 hq => ?_)
    refine mm_iret dX6_answerOf_107 rfl ?_
    exact ⟨rfl, _, rfl, hq⟩
  · rw [callE.2.2.2.1]
    refine mm_tableIn 108 dX6_answerOf_16 (by decide) (by decide) rfl (by decide) ?_
    refine mm_aload_n dX6_answerOf_108 rfl rfl ?_
    refine mm_getR dX6_answerOf_109 fl_X6_12 rfl (by assumption) (by assumption) ?_
    refine mm_iload_n dX6_answerOf_112 rfl rfl ?_
    refine mm_Vi (N := mX2_passMonths) (ci := 2) (as := [_]) dX6_answerOf_113 lk_X6_67 okX2_passMonths (by decide) rfl (by decide) rfl (by assumption) rfl (by decide) (c_passMonths tE hs hi) (fun r9 J9 hq => ?_)
    refine mm_iret dX6_answerOf_116 rfl ?_
    exact ⟨rfl, _, rfl, hq⟩
  · rw [callE.2.2.2.2]
    refine mm_tableOut 117 dX6_answerOf_16 (Or.inl (by decide)) (by decide) ?_
    refine mm_aload_n dX6_answerOf_117 rfl rfl ?_
    refine mm_getR dX6_answerOf_118 fl_X6_12 rfl (by assumption) (by assumption) ?_
    refine mm_iload_n dX6_answerOf_121 rfl rfl ?_
    refine mm_Vi (N := mX2_bottleLot) (ci := 2) (as := [_]) dX6_answerOf_122 lk_X6_70 okX2_bottleLot (by decide) rfl (by decide) rfl (by assumption) rfl (by decide) (c_bottleLot tE hs hi) (fun r9 J9 hq => ?_)
    refine mm_iret dX6_answerOf_125 rfl ?_
    exact ⟨rfl, _, rfl, hq⟩
set_option maxRecDepth 100000 in
set_option maxHeartbeats 4000000 in
theorem c_blame {S : mm_S} {I : mm_I} {t : Nat} {a b c : Int32} (hk : (S.2.1 t).1 = 6) : mm_cv mX6_blame [.ref t, .int a, .int b, .int c] S I (fun J => J = mm_wr (mm_wr (mm_wr I t 2 a) t 3 b) t 4 c) := by
  refine mm_cv.of okX6_blame rfl (Nat.le_of_ble_eq_true rfl) (lv := [(0, .ref t), (1, .int a), (2, .int b), (3, .int c)]) rfl ?_
  refine mm_aload_n dX6_blame_0 rfl rfl ?_
  refine mm_iload_n dX6_blame_1 rfl rfl ?_
  refine mm_putI dX6_blame_2 fl_X6_73 rfl rfl (by assumption) ?_
  refine mm_aload_n dX6_blame_5 rfl rfl ?_
  refine mm_iload_n dX6_blame_6 rfl rfl ?_
  refine mm_putI dX6_blame_7 fl_X6_26 rfl rfl (by assumption) ?_
  refine mm_aload_n dX6_blame_10 rfl rfl ?_
  refine mm_iload_n dX6_blame_11 rfl rfl ?_
  refine mm_putI dX6_blame_12 fl_X6_76 rfl rfl (by assumption) ?_
  refine mm_vret dX6_blame_15 rfl ?_
  exact ⟨rfl, rfl, rfl⟩
set_option maxRecDepth 100000 in
set_option maxHeartbeats 4000000 in
theorem c_run {S : mm_S} {I : mm_I} {t o e ty : Nat} {x : Nat → Nat} {s : Nat → Int32} {R : PlT} (hT : mm_tri S t) (hO : mm_ord S o) (hE : mm_est S e) (ho : o + 3 ≤ t) (he : e + 43 ≤ o) (hX : ot_at I o ty x) (hs : est_at I e s) (hi : Inv s) (hR0 : plR (cc ty x) ty s = R) : mm_cv mX6_run [.ref t, .ref o, .ref e] S I (fun J => est_at J (t + 1) R.2.1 ∧ (R.1 = true → J t 3 = 0 ∧ J t 1 = nI R.2.2.1) ∧ (R.1 = false → J t 3 = R.2.2.2.2.1 ∧ ¬ J t 3 = 0 ∧ J t 2 = nI R.2.2.2.1 ∧ J t 4 = R.2.2.2.2.2) ∧ tr_fr t o I J) := by
  have hT0 := hT
  obtain ⟨tk, tp0, tE⟩ := hT
  have tEk : (S.2.1 (t + 1)).1 = 2 := tE.1
  have ok : (S.2.1 o).1 = 5 := hO.1
  have hty := hX.2.1
  have hz : ∀ q, ty ≤ q → cc ty x q = 0 := fun q h => cc_0 h
  refine mm_cv.of okX6_run rfl (Nat.le_of_ble_eq_true rfl) (lv := [(0, .ref t), (1, .ref o), (2, .ref e)]) rfl ?_
  have ex : ∀ (k p : Nat) (I1 : mm_I), k ≤ 61 → p ≤ 60 → ¬ I1 t 3 = 0 → (fun J => est_at J (t + 1) R.2.1 ∧ (R.1 = true → J t 3 = 0 ∧ J t 1 = nI R.2.2.1) ∧ (R.1 = false → J t 3 = R.2.2.2.2.1 ∧ ¬ J t 3 = 0 ∧ J t 2 = nI R.2.2.2.1 ∧ J t 4 = R.2.2.2.2.2) ∧ tr_fr t o I J) I1 → mm_Gv mX6_run (fun J => est_at J (t + 1) R.2.1 ∧ (R.1 = true → J t 3 = 0 ∧ J t 1 = nI R.2.2.1) ∧ (R.1 = false → J t 3 = R.2.2.2.2.1 ∧ ¬ J t 3 = 0 ∧ J t 2 = nI R.2.2.2.1 ∧ J t 4 = R.2.2.2.2.2) ∧ tr_fr t o I J) 23 [(4, .int (nI k)), (3, .int (nI p)), (0, .ref t), (1, .ref o), (2, .ref e)] [] S S I1 := by
    intro k p I1 hk61 hp60 zhne zhQ
    have hTx : ot_at I1 o ty x := zhQ.2.2.2.tx ho hX
    refine mm_iload dX6_run_23 rfl ?_
    refine mm_bipush 60 dX6_run_25 rfl ?_
    refine mm_icmp_ge 125 dX6_run_27 (by decide) (fun c_27 => ?_) (fun c_27 => ?_)
    · skip
      refine mm_vret dX6_run_125 rfl ?_
      exact ⟨rfl, rfl, zhQ⟩
    · skip
      refine mm_iload_n dX6_run_30 rfl rfl ?_
      refine mm_aload_n dX6_run_31 rfl rfl ?_
      refine mm_getI dX6_run_32 fl_X6_29 rfl (by assumption) ?_
      refine mm_tope (y := nI ty) hTx.1 ?_
      refine mm_icmp_ge 125 dX6_run_35 (by decide) (fun c_35 => ?_) (fun c_35 => ?_)
      · skip
        refine mm_vret dX6_run_125 rfl ?_
        exact ⟨rfl, rfl, zhQ⟩
      · skip
        refine mm_aload_n dX6_run_38 rfl rfl ?_
        refine mm_getI dX6_run_39 fl_X6_26 rfl (by assumption) ?_
        refine mm_if_ne 125 dX6_run_42 (by decide) (fun c_42 => ?_) (fun c_42 => absurd c_42 zhne)
        refine mm_vret dX6_run_125 rfl ?_
        exact ⟨rfl, rfl, zhQ⟩
  have loop : ∀ (u k p : Nat) (s' : Nat → Int32) (I1 : mm_I), k + u = 61 → k ≤ p → p ≤ ty → pl (cc ty x) ty u p k s' (I1 (o + 2)) = R → est_at I1 (t + 1) s' → Inv s' → I1 t 1 = nI k → I1 t 3 = 0 → tr_fr t o I I1 → mm_Gv mX6_run (fun J => est_at J (t + 1) R.2.1 ∧ (R.1 = true → J t 3 = 0 ∧ J t 1 = nI R.2.2.1) ∧ (R.1 = false → J t 3 = R.2.2.2.2.1 ∧ ¬ J t 3 = 0 ∧ J t 2 = nI R.2.2.2.1 ∧ J t 4 = R.2.2.2.2.2) ∧ tr_fr t o I J) 23 [(4, .int (nI k)), (3, .int (nI p)), (0, .ref t), (1, .ref o), (2, .ref e)] [] S S I1 := by
    intro u
    induction u with
    | zero => intro k p s' I1 hku hkp hpt; omega
    | succ u ih =>
      intro k p s' I1 hku hkp hpt hR g1 hi' g2 g3 g4
      have hTx : ot_at I1 o ty x := g4.tx ho hX
      refine mm_iload dX6_run_23 rfl ?_
      refine mm_bipush 60 dX6_run_25 rfl ?_
      refine mm_icmp_ge 125 dX6_run_27 (by decide) (fun c_27 => ?_) (fun c_27 => ?_)
      · skip
        have hnp : ¬ p < ty := fun q => nI_ge (a := k) (b := 60) (by omega) (by omega) c_27
        refine mm_vret dX6_run_125 rfl ?_
        have hRe : R = (true, s', k, 0, 0, 0) := by rw [← hR]; exact pl_end hnp
        exact ⟨rfl, rfl, (by rw [hRe]; exact g1), (fun _ => by rw [hRe]; exact ⟨g3, g2⟩), (fun q => by rw [hRe] at q; cases q), g4⟩
      · skip
        have hk60 : k < 60 := Nat.not_le.mp fun q => c_27 (nI_le (a := 60) q (by omega))
        refine mm_iload_n dX6_run_30 rfl rfl ?_
        refine mm_aload_n dX6_run_31 rfl rfl ?_
        refine mm_getI dX6_run_32 fl_X6_29 rfl (by assumption) ?_
        refine mm_tope (y := nI ty) hTx.1 ?_
        refine mm_icmp_ge 125 dX6_run_35 (by decide) (fun c_35 => ?_) (fun c_35 => ?_)
        · skip
          have hnp : ¬ p < ty := fun q => nI_ge q (by omega) c_35
          refine mm_vret dX6_run_125 rfl ?_
          have hRe : R = (true, s', k, 0, 0, 0) := by rw [← hR]; exact pl_end hnp
          exact ⟨rfl, rfl, (by rw [hRe]; exact g1), (fun _ => by rw [hRe]; exact ⟨g3, g2⟩), (fun q => by rw [hRe] at q; cases q), g4⟩
        · skip
          have hlt : p < ty := Nat.not_le.mp fun q => c_35 (nI_le q (by omega))
          have hrl := rdO_le (v := I1 (o + 2)) hz hlt
          have hnf := rdO_nOf (c := cc ty x) (p := p) (v := I1 (o + 2))
          unfold pl at hR
          rw [if_pos hlt] at hR
          refine mm_aload_n dX6_run_38 rfl rfl ?_
          refine mm_getI dX6_run_39 fl_X6_26 rfl (by assumption) ?_
          refine mm_tope (y := 0) g3 ?_
          refine mm_if_ne 125 dX6_run_42 (by decide) (fun c_42 => absurd rfl c_42) (fun c_42 => ?_)
          refine mm_aload_n dX6_run_45 rfl rfl ?_
          refine mm_iload_n dX6_run_46 rfl rfl ?_
          refine mm_Vi (N := mX5_read) (ci := 5) (as := [_]) dX6_run_47 lk_X6_34 okX5_read (by decide) rfl (by decide) rfl (by assumption) rfl (by decide) (c_read (R := rdO (cc ty x) p (I1 (o + 2))) hO hTx (by omega) rfl) (fun r2 J2 hq => ?_)
          obtain ⟨hr2, k1, k2, k3, k4⟩ := hq
          generalize rdO (cc ty x) p (I1 (o + 2)) = R2 at hr2 k1 k2 k3 k4 hR hrl hnf
          subst hr2
          have f2 := tr_fr.of (t := t) k4
          have e2 : est_at J2 (t + 1) s' := est_fr g1 (fun c c1 c2 => k4.1 c (by omega) (by omega))
          have t2 : J2 t = I1 t := k4.1 t (by omega) (by omega)
          refine mm_istore dX6_run_50 (Nat.le_of_ble_eq_true rfl) ?_
          refine mm_iload dX6_run_52 rfl ?_
          refine mm_if_eq 65 dX6_run_54 (by decide) (fun c_54 => ?_) (fun c_54 => ?_)
          · skip
            have hb := if_no c_54
            rw [if_neg hb] at hR
            refine mm_iconst 0 dX6_run_65 rfl ?_
            refine mm_istore dX6_run_66 (Nat.le_of_ble_eq_true rfl) ?_
            refine mm_iload dX6_run_68 rfl ?_
            refine mm_if_ne 88 dX6_run_70 (by decide) (fun c_70 => absurd c_54 c_70) (fun c_70 => ?_)
            refine mm_aload_n dX6_run_73 rfl rfl ?_
            refine mm_iload_n dX6_run_74 rfl rfl ?_
            refine mm_iconst 1 dX6_run_75 rfl ?_
            refine mm_aload_n dX6_run_76 rfl rfl ?_
            refine mm_getI dX6_run_77 fl_X6_42 rfl (by assumption) ?_
            refine mm_tope (y := nI R2.2.1) k1 ?_
            refine mm_iload_n dX6_run_80 rfl rfl ?_
            refine mm_isub dX6_run_81 ?_
            refine mm_tope (y := nI (R2.2.1 - p)) (pk_sub (by omega)) ?_
            refine mm_Vv (N := mX6_blame) (ci := 6) (as := [_, _, _]) dX6_run_82 lk_X6_45 okX6_blame (by decide) rfl (by decide) rfl (by assumption) rfl (by decide) (c_blame tk) (fun J4 hq => ?_)
            subst hq
            have zhQ : (fun J => est_at J (t + 1) R.2.1 ∧ (R.1 = true → J t 3 = 0 ∧ J t 1 = nI R.2.2.1) ∧ (R.1 = false → J t 3 = R.2.2.2.2.1 ∧ ¬ J t 3 = 0 ∧ J t 2 = nI R.2.2.2.1 ∧ J t 4 = R.2.2.2.2.2) ∧ tr_fr t o I J) (mm_wr (mm_wr (mm_wr J2 t 2 (nI p)) t 3 1) t 4 (nI (R2.2.1 - p))) := ⟨by rw [← hR]; exact est_fr e2 (fun c c1 c2 => by rw [mm_wr_row (by omega), mm_wr_row (by omega), mm_wr_row (by omega)]), (fun q => by rw [← hR] at q; cases q), fun _ => ⟨by rw [← hR, mm_wr_k (by omega), mm_wr_s], by rw [mm_wr_k (by omega), mm_wr_s]; decide, by rw [← hR, mm_wr_k (by omega), mm_wr_k (by omega), mm_wr_s], by rw [← hR, mm_wr_s]⟩, (((g4.tr f2).w ho).w ho).w ho⟩
            have zo4 : mm_wr (mm_wr (mm_wr J2 t 2 (nI p)) t 3 1) t 4 (nI (R2.2.1 - p)) o 4 = nI R2.2.1 := by rw [mm_wr_row (by omega), mm_wr_row (by omega), mm_wr_row (by omega)]; exact k1
            have zhne : ¬ mm_wr (mm_wr (mm_wr J2 t 2 (nI p)) t 3 1) t 4 (nI (R2.2.1 - p)) t 3 = 0 := by rw [mm_wr_k (by omega), mm_wr_s]; decide
            generalize mm_wr (mm_wr (mm_wr J2 t 2 (nI p)) t 3 1) t 4 (nI (R2.2.1 - p)) = J5 at zhQ zo4 zhne ⊢
            refine mm_goto 114 dX6_run_85 (by decide) ?_
            refine mm_aload_n dX6_run_114 rfl rfl ?_
            refine mm_getI dX6_run_115 fl_X6_42 rfl (by assumption) ?_
            refine mm_tope (y := nI R2.2.1) zo4 ?_
            refine mm_istore_n dX6_run_118 rfl (Nat.le_of_ble_eq_true rfl) ?_
            refine mm_iinc 1 dX6_run_119 rfl rfl (Nat.le_of_ble_eq_true rfl) ?_
            rw [nI_1]
            refine mm_goto 23 dX6_run_122 (by decide) ?_
            exact mm_G.at (ex (k + 1) R2.2.1 _ (by omega) (by omega) zhne zhQ) (mm_s1 rfl (mm_s1 rfl (mm_s1 rfl (mm_s1 rfl (mm_s1 rfl mm_s0)))))
          · skip
            have hb := if_yes c_54
            rw [if_pos hb] at hR
            refine mm_aload_n dX6_run_57 rfl rfl ?_
            refine mm_aload_n dX6_run_58 rfl rfl ?_
            refine mm_Vi (N := mX6_answerOf) (ci := 6) (as := [_]) dX6_run_59 lk_X6_38 okX6_answerOf (by decide) rfl (by decide) rfl (by assumption) rfl (by decide) (c_answerOf (k := cc ty x p) (s := s') hT0 hO e2 hi' k3 (hnf hb)) (fun r3 J3 hq => ?_)
            obtain ⟨hr3, e3, f3⟩ := hq
            rw [k2] at hr3 e3
            subst hr3
            have f4 := tr_fr.e (o := o) f3 (by omega)
            have t3 : J3 t = I1 t := (f3 t (by omega)).trans t2
            have zo3 : J3 o 4 = nI R2.2.1 := by rw [f3 o (by omega)]; exact k1
            have n3 : J3 (o + 2) = R2.2.2 := by rw [f3 (o + 2) (by omega)]; exact k2
            have hi3 : Inv (sp_call s' (cc ty x p) R2.2.2).2 := Inv.call hi'
            refine mm_goto 66 dX6_run_62 (by decide) ?_
            refine mm_istore dX6_run_66 (Nat.le_of_ble_eq_true rfl) ?_
            refine mm_iload dX6_run_68 rfl ?_
            refine mm_if_ne 88 dX6_run_70 (by decide) (fun c_70 => ?_) (fun c_70 => absurd c_70 c_54)
            refine mm_iload dX6_run_88 rfl ?_
            refine mm_if_ge 104 dX6_run_90 (by decide) (fun c_90 => ?_) (fun c_90 => ?_)
            · skip
              rw [if_pos c_90] at hR
              refine mm_aload_n dX6_run_104 rfl rfl ?_
              refine mm_dup dX6_run_105 rfl ?_
              refine mm_getI dX6_run_106 fl_X6_22 rfl (by assumption) ?_
              refine mm_tope (y := nI k) ((congrFun t3 1).trans g2) ?_
              refine mm_iconst 1 dX6_run_109 rfl ?_
              refine mm_iadd dX6_run_110 ?_
              refine mm_tope (y := nI (k + 1)) (nI_1 _) ?_
              refine mm_putI dX6_run_111 fl_X6_22 rfl rfl (by assumption) ?_
              refine mm_aload_n dX6_run_114 rfl rfl ?_
              refine mm_getI dX6_run_115 fl_X6_42 rfl (by assumption) ?_
              refine mm_tope (y := nI R2.2.1) (by rw [mm_wr_row (by omega)]; exact zo3) ?_
              refine mm_istore_n dX6_run_118 rfl (Nat.le_of_ble_eq_true rfl) ?_
              refine mm_iinc 1 dX6_run_119 rfl rfl (Nat.le_of_ble_eq_true rfl) ?_
              rw [nI_1]
              refine mm_goto 23 dX6_run_122 (by decide) ?_
              exact mm_G.at (ih (k + 1) R2.2.1 (sp_call s' (cc ty x p) R2.2.2).2 (mm_wr J3 t 1 (nI (k + 1))) (by omega) (by have := hrl.2.2 hb; omega) (by omega) (by rw [mm_wr_row (by omega), n3]; exact hR) (est_fr e3 (fun c c1 c2 => mm_wr_row (by omega))) hi3 mm_wr_s ((mm_wr_k (by omega)).trans ((congrFun t3 3).trans g3)) (((g4.tr f2).tr f4).w ho)) (mm_s1 rfl (mm_s1 rfl (mm_s1 rfl (mm_s1 rfl (mm_s1 rfl mm_s0)))))
            · skip
              rw [if_neg c_90] at hR
              refine mm_aload_n dX6_run_93 rfl rfl ?_
              refine mm_iload_n dX6_run_94 rfl rfl ?_
              refine mm_iconst 2 dX6_run_95 rfl ?_
              refine mm_iload dX6_run_96 rfl ?_
              refine mm_Vv (N := mX6_blame) (ci := 6) (as := [_, _, _]) dX6_run_98 lk_X6_45 okX6_blame (by decide) rfl (by decide) rfl (by assumption) rfl (by decide) (c_blame tk) (fun J4 hq => ?_)
              subst hq
              have zhQ : (fun J => est_at J (t + 1) R.2.1 ∧ (R.1 = true → J t 3 = 0 ∧ J t 1 = nI R.2.2.1) ∧ (R.1 = false → J t 3 = R.2.2.2.2.1 ∧ ¬ J t 3 = 0 ∧ J t 2 = nI R.2.2.2.1 ∧ J t 4 = R.2.2.2.2.2) ∧ tr_fr t o I J) (mm_wr (mm_wr (mm_wr J3 t 2 (nI p)) t 3 2) t 4 (sp_call s' (cc ty x p) R2.2.2).1) := ⟨by rw [← hR]; exact est_fr e3 (fun c c1 c2 => by rw [mm_wr_row (by omega), mm_wr_row (by omega), mm_wr_row (by omega)]), (fun q => by rw [← hR] at q; cases q), fun _ => ⟨by rw [← hR, mm_wr_k (by omega), mm_wr_s], by rw [mm_wr_k (by omega), mm_wr_s]; decide, by rw [← hR, mm_wr_k (by omega), mm_wr_k (by omega), mm_wr_s], by rw [← hR, mm_wr_s]⟩, ((((g4.tr f2).tr f4).w ho).w ho).w ho⟩
              have zo4 : mm_wr (mm_wr (mm_wr J3 t 2 (nI p)) t 3 2) t 4 (sp_call s' (cc ty x p) R2.2.2).1 o 4 = nI R2.2.1 := by rw [mm_wr_row (by omega), mm_wr_row (by omega), mm_wr_row (by omega)]; exact zo3
              have zhne : ¬ mm_wr (mm_wr (mm_wr J3 t 2 (nI p)) t 3 2) t 4 (sp_call s' (cc ty x p) R2.2.2).1 t 3 = 0 := by rw [mm_wr_k (by omega), mm_wr_s]; decide
              generalize mm_wr (mm_wr (mm_wr J3 t 2 (nI p)) t 3 2) t 4 (sp_call s' (cc ty x p) R2.2.2).1 = J5 at zhQ zo4 zhne ⊢
              refine mm_goto 114 dX6_run_101 (by decide) ?_
              refine mm_aload_n dX6_run_114 rfl rfl ?_
              refine mm_getI dX6_run_115 fl_X6_42 rfl (by assumption) ?_
              refine mm_tope (y := nI R2.2.1) zo4 ?_
              refine mm_istore_n dX6_run_118 rfl (Nat.le_of_ble_eq_true rfl) ?_
              refine mm_iinc 1 dX6_run_119 rfl rfl (Nat.le_of_ble_eq_true rfl) ?_
              rw [nI_1]
              refine mm_goto 23 dX6_run_122 (by decide) ?_
              exact mm_G.at (ex (k + 1) R2.2.1 _ (by omega) (by omega) zhne zhQ) (mm_s1 rfl (mm_s1 rfl (mm_s1 rfl (mm_s1 rfl (mm_s1 rfl mm_s0)))))
  refine mm_aload_n dX6_run_0 rfl rfl ?_
  refine mm_getR dX6_run_1 fl_X6_12 rfl (by assumption) (by assumption) ?_
  refine mm_aload_n dX6_run_4 rfl rfl ?_
  refine mm_Vv (N := mX2_copyEstate) (ci := 2) (as := [_]) dX6_run_5 lk_X6_18 okX2_copyEstate (by decide) rfl (by decide) rfl (by assumption) rfl (by decide) (c_copyEstate tE hE (by omega) hs hi) (fun J1 hq => ?_)
  obtain ⟨q1, q2⟩ := hq
  refine mm_aload_n dX6_run_8 rfl rfl ?_
  refine mm_iconst 0 dX6_run_9 rfl ?_
  refine mm_putI dX6_run_10 fl_X6_22 rfl rfl (by assumption) ?_
  refine mm_aload_n dX6_run_13 rfl rfl ?_
  refine mm_iconst 0 dX6_run_14 rfl ?_
  refine mm_putI dX6_run_15 fl_X6_26 rfl rfl (by assumption) ?_
  refine mm_iconst 0 dX6_run_18 rfl ?_
  refine mm_istore_n dX6_run_19 rfl (Nat.le_of_ble_eq_true rfl) ?_
  refine mm_iconst 0 dX6_run_20 rfl ?_
  refine mm_istore dX6_run_21 (Nat.le_of_ble_eq_true rfl) ?_
  have hv : pl (cc ty x) ty 61 0 0 s (mm_wr (mm_wr J1 t 1 0) t 3 0 (o + 2)) = R := (pl_v 61 0 0 s _ _).trans hR0
  exact mm_G.at (loop 61 0 0 s _ (by omega) (by omega) (by omega) hv (est_fr q1 (fun c c1 c2 => by rw [mm_wr_row (by omega), mm_wr_row (by omega)])) hi ((mm_wr_k (by omega)).trans mm_wr_s) mm_wr_s (((tr_fr.e (o := o) q2 ho).w ho).w ho)) (mm_s1 rfl (mm_s1 rfl (mm_s1 rfl (mm_s1 rfl (mm_s1 rfl mm_s0)))))
