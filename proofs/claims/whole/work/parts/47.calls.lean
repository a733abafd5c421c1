/-! THE REFERENCE: an order is read, and done, again -/
def spk_ok (k : Nat) : Prop := nOf k ≠ 0
def sp_call (s : Nat → Int32) (k : Nat) (v : Nat → Int32) : sp_T := if k = 108 then sp_lot s (v 0) (v 1) else if k = 115 then sp_sell s (v 0) (v 1) (v 2) (v 3) else if k = 116 then sp_taste s (v 0) (v 1) else if k = 109 then sp_pass s (v 0) else sp_bottle s (v 0)
theorem Inv.call {s : Nat → Int32} {k : Nat} {v : Nat → Int32} (hi : Inv s) : Inv (sp_call s k v).2 := by
  unfold sp_call
  split
  · exact hi.lot
  · split
    · exact hi.sell
    · split
      · exact hi.taste
      · split
        · exact hi.passes
        · exact hi.bottle
theorem nOf_cases {k : Nat} (h : nOf k ≠ 0) : k = 108 ∨ k = 115 ∨ k = 116 ∨ k = 109 ∨ k = 98 := by
  unfold nOf at h
  by_cases e1 : k = 115
  · exact Or.inr (Or.inl e1)
  · rw [if_neg e1] at h
    by_cases e2 : k = 108 ∨ k = 116
    · exact e2.elim Or.inl (fun e => Or.inr (Or.inr (Or.inl e)))
    · rw [if_neg e2] at h
      by_cases e3 : k = 109 ∨ k = 98
      · exact e3.elim (fun e => Or.inr (Or.inr (Or.inr (Or.inl e)))) (fun e => Or.inr (Or.inr (Or.inr (Or.inr e))))
      · rw [if_neg e3] at h
        exact absurd rfl h

set_option maxRecDepth 100000 in
set_option maxHeartbeats 4000000 in
theorem r_reads {S : mm_S} {I : mm_I} {m ty p : Nat} {x : Nat → Nat} (hM : mm_ref S m) (hT : tx_at I m ty x) (h9 : I m 9 = nI p) (hp : p ≤ 60) : mm_ci mX8_reads [.ref m] S I (fun q J => q = (if (rdO (cc ty x) p (I (m + 6))).1 = true then 1 else 0) ∧ J m 9 = nI (rdO (cc ty x) p (I (m + 6))).2.1 ∧ J (m + 6) = (rdO (cc ty x) p (I (m + 6))).2.2 ∧ ((rdO (cc ty x) p (I (m + 6))).1 = true → J m 14 = nI (cc ty x p)) ∧ r_ft m I J) := by
  have hM0 := hM
  obtain ⟨hk9, hp0, hp1, hp2, hp5, hp7, hp15, hk1, hk2, hk3, hk4, hk5, hk6⟩ := hM
  have hty := hT.2.1
  refine mm_ci.of okX8_reads rfl (Nat.le_of_ble_eq_true rfl) (lv := [(0, .ref m)]) rfl ?_
  refine mm_aload_n dX8_reads_0 rfl rfl ?_
  refine mm_aload_n dX8_reads_1 rfl rfl ?_
  refine mm_bipush 33 dX8_reads_2 rfl ?_
  refine mm_bipush 126 dX8_reads_4 rfl ?_
  refine mm_Vi (N := mX8_isAt) (ci := 8) (as := [_, _]) dX8_reads_6 lk_X8_154 okX8_isAt (by decide) rfl (by decide) rfl (by assumption) rfl (by first | decide | (simp [Value.category])) (at_in (a := 33) (b := 126) hM0 hT h9 hp (by omega) (by omega) (by omega)) (fun r1 J1 hq => ?_)
  obtain ⟨rfl, hJ⟩ := hq
  subst J1
  by_cases hk : 33 ≤ cc ty x p ∧ cc ty x p ≤ 126
  · rw [if_pos hk]
    have hpt : p < ty := cc_lt (ty := ty) (x := x) (p := p) (by omega)
    have hxp := (hT.2.2 p hpt)
    have hcc : cc ty x p = x p := if_pos hpt
    have hz := rdNum_le (c := cc ty x) (ty := ty) (fun p hp => cc_0 hp) 3 (p + 1) 0
    by_cases h0 : nOf (cc ty x p) = 0
    · have hRx : (rdO (cc ty x) p (I (m + 6))) = (false, p, I (m + 6)) := if_pos h0
      refine mm_if_eq 24 dX8_reads_9 (by decide) (fun c_9 => absurd c_9 (by decide)) (fun c_9 => ?_)
      refine mm_aload_n dX8_reads_12 rfl rfl ?_
      refine mm_getR dX8_reads_13 fl_X8_19 rfl (by assumption) (by assumption) ?_
      refine mm_aload_n dX8_reads_16 rfl rfl ?_
      refine mm_getI dX8_reads_17 fl_X8_151 rfl (by assumption) ?_
      refine mm_tope (y := nI p) h9 ?_
      refine mm_iald dX8_reads_20 (by assumption) (vp_in_nI (n := p) (by omega) (by omega)) ?_
      refine mm_tope (y := nI (cc ty x p)) (by rw [nI_clamp (by omega), hcc]; exact hxp.1) ?_
      refine mm_goto 25 dX8_reads_21 (by decide) ?_
      refine mm_putI dX8_reads_25 fl_X8_157 rfl rfl (by assumption) ?_
      refine mm_aload_n dX8_reads_28 rfl rfl ?_
      refine mm_getI dX8_reads_29 fl_X8_157 rfl (by assumption) ?_
      refine mm_tope (y := nI (cc ty x p)) mm_wr_s ?_
      refine mm_Si (N := mX8_numbersOf) (as := [_]) dX8_reads_32 lk_X8_160 okX8_numbersOf (by decide) rfl rfl (by decide) (r_numbersOf (by omega)) (fun r2 J2 hq => ?_)
      obtain ⟨rfl, hJ⟩ := hq
      subst J2
      refine mm_istore_n dX8_reads_35 rfl (Nat.le_of_ble_eq_true rfl) ?_
      refine mm_iload_n dX8_reads_36 rfl rfl ?_
      refine mm_if_ne 42 dX8_reads_37 (by decide) (fun c_37 => absurd (by rw [h0]; rfl) c_37) (fun c_37 => ?_)
      refine mm_iconst 0 dX8_reads_40 rfl ?_
      refine mm_zret dX8_reads_41 rfl (by first | exact Or.inl rfl | exact Or.inr rfl | assumption) ?_
      exact ⟨rfl, _, rfl, by rw [hRx]; rfl, by rw [hRx]; exact (mm_wr_k (by omega)).trans h9, by rw [hRx]; exact mm_wr_row (by omega), fun h => mm_wr_s, r_ft.rf.w14⟩
    · have hRx : (rdO (cc ty x) p (I (m + 6))) = rdF (cc ty x) (nOf (cc ty x p) - 1) 1 (rdNum (cc ty x) 3 (p + 1) 0).1 (decide (p + 1 < (rdNum (cc ty x) 3 (p + 1) 0).1)) (upd (I (m + 6)) 0 (nI (rdNum (cc ty x) 3 (p + 1) 0).2)) := if_neg h0
      have hn4 := nOf_le (cc ty x p)
      refine mm_if_eq 24 dX8_reads_9 (by decide) (fun c_9 => absurd c_9 (by decide)) (fun c_9 => ?_)
      refine mm_aload_n dX8_reads_12 rfl rfl ?_
      refine mm_getR dX8_reads_13 fl_X8_19 rfl (by assumption) (by assumption) ?_
      refine mm_aload_n dX8_reads_16 rfl rfl ?_
      refine mm_getI dX8_reads_17 fl_X8_151 rfl (by assumption) ?_
      refine mm_tope (y := nI p) h9 ?_
      refine mm_iald dX8_reads_20 (by assumption) (vp_in_nI (n := p) (by omega) (by omega)) ?_
      refine mm_tope (y := nI (cc ty x p)) (by rw [nI_clamp (by omega), hcc]; exact hxp.1) ?_
      refine mm_goto 25 dX8_reads_21 (by decide) ?_
      refine mm_putI dX8_reads_25 fl_X8_157 rfl rfl (by assumption) ?_
      refine mm_aload_n dX8_reads_28 rfl rfl ?_
      refine mm_getI dX8_reads_29 fl_X8_157 rfl (by assumption) ?_
      refine mm_tope (y := nI (cc ty x p)) mm_wr_s ?_
      refine mm_Si (N := mX8_numbersOf) (as := [_]) dX8_reads_32 lk_X8_160 okX8_numbersOf (by decide) rfl rfl (by decide) (r_numbersOf (by omega)) (fun r2 J2 hq => ?_)
      obtain ⟨rfl, hJ⟩ := hq
      subst J2
      refine mm_istore_n dX8_reads_35 rfl (Nat.le_of_ble_eq_true rfl) ?_
      refine mm_iload_n dX8_reads_36 rfl rfl ?_
      refine mm_if_ne 42 dX8_reads_37 (by decide) (fun c_37 => ?_) (fun c_37 => absurd c_37 (nI_ne0 (by omega) (by omega)))
      refine mm_aload_n dX8_reads_42 rfl rfl ?_
      refine mm_dup dX8_reads_43 rfl ?_
      refine mm_getI dX8_reads_44 fl_X8_151 rfl (by assumption) ?_
      refine mm_tope (y := nI p) ((mm_wr_k (by omega)).trans h9) ?_
      refine mm_iconst 1 dX8_reads_47 rfl ?_
      refine mm_iadd dX8_reads_48 ?_
      refine mm_tope (y := nI (p + 1)) (nI_1 p) ?_
      refine mm_putI dX8_reads_49 fl_X8_151 rfl rfl (by assumption) ?_
      refine mm_aload_n dX8_reads_52 rfl rfl ?_
      refine mm_iconst 0 dX8_reads_53 rfl ?_
      refine mm_Vi (N := mX8_number) (ci := 8) (as := [_]) dX8_reads_54 lk_X8_163 okX8_number (by decide) rfl (by decide) rfl (by assumption) rfl (by decide) (r_number (i := 0) (p := p + 1) hM0 ((r_ft.rf.w14.w9).tx hT) mm_wr_s (by omega) (by omega)) (fun r3 J3 hq => ?_)
      obtain ⟨rfl, w9, w6, w14, wf⟩ := hq
      have w6 : J3 (m + 6) = upd (I (m + 6)) 0 (nI (rdNum (cc ty x) 3 (p + 1) 0).2) := by rw [w6, mm_wr_row (by omega), mm_wr_row (by omega)]
      have w14 : J3 m 14 = nI (cc ty x p) := by rw [w14, mm_wr_k (by omega), mm_wr_s]
      have Wf : r_ft m I J3 := (r_ft.rf.w14.w9).tr wf
      refine mm_istore_n dX8_reads_57 rfl (Nat.le_of_ble_eq_true rfl) ?_
      refine mm_iconst 1 dX8_reads_58 rfl ?_
      refine mm_istore_n dX8_reads_59 rfl (Nat.le_of_ble_eq_true rfl) ?_
      have hl := r_readsLoop (n := nOf (cc ty x p)) (k0 := cc ty x p) hM0 hT hn4 (nOf (cc ty x p) - 1) 1 (rdNum (cc ty x) 3 (p + 1) 0).1 (decide (p + 1 < (rdNum (cc ty x) 3 (p + 1) 0).1)) _ J3 (by omega) (by omega) (by omega) hRx.symm w9 w6 w14 Wf
      by_cases hz2 : p + 1 < (rdNum (cc ty x) 3 (p + 1) 0).1
      · rw [decide_eq_true hz2] at hl
        rw [if_pos hz2]
        exact mm_G.at (hl) (mm_s1 rfl (mm_s1 rfl (mm_s1 rfl (mm_s1 rfl mm_s0))))
      · rw [decide_eq_false hz2] at hl
        rw [if_neg hz2]
        exact mm_G.at (hl) (mm_s1 rfl (mm_s1 rfl (mm_s1 rfl (mm_s1 rfl mm_s0))))
  · rw [if_neg hk]
    have h0 : nOf (cc ty x p) = 0 := by
      rcases Classical.em (nOf (cc ty x p) = 0) with e | e
      · exact e
      · have := nOf_cases e
        omega
    have hRx : (rdO (cc ty x) p (I (m + 6))) = (false, p, I (m + 6)) := if_pos h0
    refine mm_if_eq 24 dX8_reads_9 (by decide) (fun c_9 => ?_) (fun c_9 => absurd rfl c_9)
    refine mm_iconst 0 dX8_reads_24 rfl ?_
    refine mm_putI dX8_reads_25 fl_X8_157 rfl rfl (by assumption) ?_
    refine mm_aload_n dX8_reads_28 rfl rfl ?_
    refine mm_getI dX8_reads_29 fl_X8_157 rfl (by assumption) ?_
    refine mm_tope (y := nI 0) mm_wr_s ?_
    refine mm_Si (N := mX8_numbersOf) (as := [_]) dX8_reads_32 lk_X8_160 okX8_numbersOf (by decide) rfl rfl (by decide) (r_numbersOf (k := 0) (by omega)) (fun r2 J2 hq => ?_)
    obtain ⟨rfl, hJ⟩ := hq
    subst J2
    refine mm_istore_n dX8_reads_35 rfl (Nat.le_of_ble_eq_true rfl) ?_
    refine mm_iload_n dX8_reads_36 rfl rfl ?_
    refine mm_if_ne 42 dX8_reads_37 (by decide) (fun c_37 => absurd rfl c_37) (fun c_37 => ?_)
    refine mm_iconst 0 dX8_reads_40 rfl ?_
    refine mm_zret dX8_reads_41 rfl (by first | exact Or.inl rfl | exact Or.inr rfl | assumption) ?_
    exact ⟨rfl, _, rfl, by rw [hRx]; rfl, by rw [hRx]; exact (mm_wr_k (by omega)).trans h9, by rw [hRx]; exact mm_wr_row (by omega), fun h => (by rw [hRx] at h; cases h), r_ft.rf.w14⟩
  
set_option maxRecDepth 100000 in
set_option maxHeartbeats 4000000 in
theorem r_calls {S : mm_S} {I : mm_I} {m k : Nat} (hM : mm_ref S m) (hi : Inv (I (m + 1))) (h4 : ¬ I m 4 = 0) (h14 : I m 14 = nI k) (hk : nOf k ≠ 0) : mm_ci mX8_calls [.ref m] S I (r_Q m 0 (fun _ _ => 0) I (sp_call (I (m + 1)) k (I (m + 6)))) := by
  have hM0 := hM
  obtain ⟨hk9, hp0, hp1, hp2, hp5, hp7, hp15, hk1, hk2, hk3, hk4, hk5, hk6⟩ := hM
  have hh : I m 4 = 0 → hist_r I m 0 (fun _ _ => 0) := fun q => absurd q h4
  refine mm_ci.of okX8_calls rfl (Nat.le_of_ble_eq_true rfl) (lv := [(0, .ref m)]) rfl ?_
  rcases nOf_cases hk with e | e | e | e | e
  · subst e
    refine mm_aload_n dX8_calls_0 rfl rfl ?_
    refine mm_getI dX8_calls_1 fl_X8_157 rfl (by assumption) ?_
    refine mm_tope (y := nI 108) h14 ?_
    refine mm_tableIn 56 dX8_calls_4 (by decide) (by decide) rfl (by decide) ?_
    refine mm_aload_n dX8_calls_56 rfl rfl ?_
    refine mm_aload_n dX8_calls_57 rfl rfl ?_
    refine mm_getR dX8_calls_58 fl_X8_25 rfl (by assumption) (by assumption) ?_
    refine mm_iconst 0 dX8_calls_61 rfl ?_
    refine mm_iald dX8_calls_62 (by assumption) (vp_in_nI (n := 0) (by omega) (by omega)) ?_
    refine mm_tope (y := I (m + 6) 0) rfl ?_
    refine mm_aload_n dX8_calls_63 rfl rfl ?_
    refine mm_getR dX8_calls_64 fl_X8_25 rfl (by assumption) (by assumption) ?_
    refine mm_iconst 1 dX8_calls_67 rfl ?_
    refine mm_iald dX8_calls_68 (by assumption) (vp_in_nI (n := 1) (by omega) (by omega)) ?_
    refine mm_tope (y := I (m + 6) 1) rfl ?_
    refine mm_Vi (N := mX8_lot) (ci := 8) (as := [_, _]) dX8_calls_69 lk_X8_169 okX8_lot (by decide) rfl (by decide) rfl (by assumption) rfl (by decide) (r_lot (n := 0) (hs := fun _ _ => 0) hM0 hi hh) (fun r1 J1 hq => ?_)
    refine mm_iret dX8_calls_72 rfl ?_
    exact ⟨rfl, _, rfl, hq⟩
  · subst e
    refine mm_aload_n dX8_calls_0 rfl rfl ?_
    refine mm_getI dX8_calls_1 fl_X8_157 rfl (by assumption) ?_
    refine mm_tope (y := nI 115) h14 ?_
    refine mm_tableIn 73 dX8_calls_4 (by decide) (by decide) rfl (by decide) ?_
    refine mm_aload_n dX8_calls_73 rfl rfl ?_
    refine mm_aload_n dX8_calls_74 rfl rfl ?_
    refine mm_getR dX8_calls_75 fl_X8_25 rfl (by assumption) (by assumption) ?_
    refine mm_iconst 0 dX8_calls_78 rfl ?_
    refine mm_iald dX8_calls_79 (by assumption) (vp_in_nI (n := 0) (by omega) (by omega)) ?_
    refine mm_tope (y := I (m + 6) 0) rfl ?_
    refine mm_aload_n dX8_calls_80 rfl rfl ?_
    refine mm_getR dX8_calls_81 fl_X8_25 rfl (by assumption) (by assumption) ?_
    refine mm_iconst 1 dX8_calls_84 rfl ?_
    refine mm_iald dX8_calls_85 (by assumption) (vp_in_nI (n := 1) (by omega) (by omega)) ?_
    refine mm_tope (y := I (m + 6) 1) rfl ?_
    refine mm_aload_n dX8_calls_86 rfl rfl ?_
    refine mm_getR dX8_calls_87 fl_X8_25 rfl (by assumption) (by assumption) ?_
    refine mm_iconst 2 dX8_calls_90 rfl ?_
    refine mm_iald dX8_calls_91 (by assumption) (vp_in_nI (n := 2) (by omega) (by omega)) ?_
    refine mm_tope (y := I (m + 6) 2) rfl ?_
    refine mm_aload_n dX8_calls_92 rfl rfl ?_
    refine mm_getR dX8_calls_93 fl_X8_25 rfl (by assumption) (by assumption) ?_
    refine mm_iconst 3 dX8_calls_96 rfl ?_
    refine mm_iald dX8_calls_97 (by assumption) (vp_in_nI (n := 3) (by omega) (by omega)) ?_
    refine mm_tope (y := I (m + 6) 3) rfl ?_
    refine mm_Vi (N := mX8_sell) (ci := 8) (as := [_, _, _, _]) dX8_calls_98 lk_X8_172 okX8_sell (by decide) rfl (by decide) rfl (by assumption) rfl (by decide) (r_sell (n := 0) (hs := fun _ _ => 0) hM0 hi hh) (fun r1 J1 hq => ?_)
    refine mm_iret dX8_calls_101 rfl ?_
    exact ⟨rfl, _, rfl, hq⟩
  · subst e
    refine mm_aload_n dX8_calls_0 rfl rfl ?_
    refine mm_getI dX8_calls_1 fl_X8_157 rfl (by assumption) ?_
    refine mm_tope (y := nI 116) h14 ?_
    refine mm_tableIn 102 dX8_calls_4 (by decide) (by decide) rfl (by decide) ?_
    refine mm_aload_n dX8_calls_102 rfl rfl ?_
    refine mm_aload_n dX8_calls_103 rfl rfl ?_
    refine mm_getR dX8_calls_104 fl_X8_25 rfl (by assumption) (by assumption) ?_
    refine mm_iconst 0 dX8_calls_107 rfl ?_
    refine mm_iald dX8_calls_108 (by assumption) (vp_in_nI (n := 0) (by omega) (by omega)) ?_
    refine mm_tope (y := I (m + 6) 0) rfl ?_
    refine mm_aload_n dX8_calls_109 rfl rfl ?_
    refine mm_getR dX8_calls_110 fl_X8_25 rfl (by assumption) (by assumption) ?_
    refine mm_iconst 1 dX8_calls_113 rfl ?_
    refine mm_iald dX8_calls_114 (by assumption) (vp_in_nI (n := 1) (by omega) (by omega)) ?_
    refine mm_tope (y := I (m + 6) 1) rfl ?_
    refine mm_Vi (N := mX8_taste) (ci := 8) (as := [_, _]) dX8_calls_115 lk_X8_175 okX8_taste (by decide) rfl (by decide) rfl (by assumption) rfl (by decide) (r_taste (n := 0) (hs := fun _ _ => 0) hM0 hi hh) (fun r1 J1 hq => ?_)
    refine mm_iret dX8_calls_118 rfl ?_
    exact ⟨rfl, _, rfl, hq⟩
  · subst e
    refine mm_aload_n dX8_calls_0 rfl rfl ?_
    refine mm_getI dX8_calls_1 fl_X8_157 rfl (by assumption) ?_
    refine mm_tope (y := nI 109) h14 ?_
    refine mm_tableIn 119 dX8_calls_4 (by decide) (by decide) rfl (by decide) ?_
    refine mm_aload_n dX8_calls_119 rfl rfl ?_
    refine mm_aload_n dX8_calls_120 rfl rfl ?_
    refine mm_getR dX8_calls_121 fl_X8_25 rfl (by assumption) (by assumption) ?_
    refine mm_iconst 0 dX8_calls_124 rfl ?_
    refine mm_iald dX8_calls_125 (by assumption) (vp_in_nI (n := 0) (by omega) (by omega)) ?_
    refine mm_tope (y := I (m + 6) 0) rfl ?_
    refine mm_Vi (N := mX8_pass) (ci := 8) (as := [_]) dX8_calls_126 lk_X8_178 okX8_pass (by decide) rfl (by decide) rfl (by assumption) rfl (by decide) (r_pass (n := 0) (hs := fun _ _ => 0) hM0 hi hh) (fun r1 J1 hq => ?_)
    refine mm_iret dX8_calls_129 rfl ?_
    exact ⟨rfl, _, rfl, hq⟩
  · subst e
    refine mm_aload_n dX8_calls_0 rfl rfl ?_
    refine mm_getI dX8_calls_1 fl_X8_157 rfl (by assumption) ?_
    refine mm_tope (y := nI 98) h14 ?_
    refine mm_tableOut 130 dX8_calls_4 (Or.inl (by decide)) (by decide) ?_
    refine mm_aload_n dX8_calls_130 rfl rfl ?_
    refine mm_aload_n dX8_calls_131 rfl rfl ?_
    refine mm_getR dX8_calls_132 fl_X8_25 rfl (by assumption) (by assumption) ?_
    refine mm_iconst 0 dX8_calls_135 rfl ?_
    refine mm_iald dX8_calls_136 (by assumption) (vp_in_nI (n := 0) (by omega) (by omega)) ?_
    refine mm_tope (y := I (m + 6) 0) rfl ?_
    refine mm_Vi (N := mX8_bottle) (ci := 8) (as := [_]) dX8_calls_137 lk_X8_181 okX8_bottle (by decide) rfl (by decide) rfl (by assumption) rfl (by decide) (r_bottle (n := 0) (hs := fun _ _ => 0) hM0 hi hh) (fun r1 J1 hq => ?_)
    refine mm_iret dX8_calls_140 rfl ?_
    exact ⟨rfl, _, rfl, hq⟩

