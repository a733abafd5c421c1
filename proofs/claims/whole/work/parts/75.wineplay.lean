/-! THE CLASS: WineFutures, fault and play -/
theorem tr_fr.wf {w nx n ty : Nat} {I J : mm_I} {hs : Nat → Nat → Int32} {x : Nat → Nat} {s : Nat → Int32} (h : tr_fr (w + 264) (w + 261) I J) (hA : wf_at I w s nx n hs ty x) : wf_at J w s nx n hs ty x ∧ wf_fr w I J :=
  ⟨⟨est_fr hA.1 (fun c c1 c2 => h.1 c (by omega) (by omega) (by omega)), hA.2.1.fr (fun c c1 c2 => h.1 c (by omega) (by omega) (by omega)), h.tx (by omega) hA.2.2⟩, fun c hc => h.1 c (by omega) (by omega) (by omega)⟩
theorem pl_cnt {c : Nat → Nat} {ty : Nat} : ∀ (f p o : Nat) (s v : Nat → Int32), (pl c ty f p o s v).2.2.1 ≤ o + f
  | 0, _, o, _, _ => Nat.le_refl o
  | f + 1, p, o, s, v => by
    unfold pl
    split
    · split
      · split
        · have q := pl_cnt (c := c) (ty := ty) f (rdO c p v).2.1 (o + 1) (sp_call s (c p) (rdO c p v).2.2).2 (rdO c p v).2.2
          omega
        · show o + 1 ≤ _
          omega
      · show o + 1 ≤ _
        omega
    · show o ≤ _
      omega
theorem plR_cnt {c : Nat → Nat} {ty : Nat} {s : Nat → Int32} : (plR c ty s).2.2.1 ≤ 61 := Nat.le_trans (pl_cnt 61 0 0 s _) (by omega)
theorem plR_inv {c : Nat → Nat} {ty : Nat} {s : Nat → Int32} (hi : Inv s) : Inv (plR c ty s).2.1 := (pl_hi (j := 316) (Nat.le_refl _) 61 0 0 s _ hi).1

set_option maxRecDepth 100000 in
set_option maxHeartbeats 4000000 in
theorem c_fault {S : mm_S} {I : mm_I} {w nx n ty : Nat} {hs : Nat → Nat → Int32} {x : Nat → Nat} {s : Nat → Int32} {f : Int32} (hW : mm_wine S w) (hA : wf_at I w s nx n hs ty x) (hi : Inv s) : mm_ci mX7_fault [.ref w, .int f] S I (wf_A w I s nx n hs ty x (sq_fault (plR (cc ty x) ty s) f)) := by
  obtain ⟨wk, wp0, wp1, wp2, wp3, wE, wH, wO, wT⟩ := hW
  have wEk : (S.2.1 (w + 1)).1 = 2 := wE.1
  have wHk : (S.2.1 (w + 44)).1 = 3 := wH.1
  have wOk : (S.2.1 (w + 261)).1 = 5 := wO.1
  have wTk : (S.2.1 (w + 264)).1 = 6 := wT.1
  have wTp : S.2.2 (w + 264) 0 = some (w + 264 + 1) := wT.2.1
  generalize hRR : plR (cc ty x) ty s = R
  refine mm_ci.of okX7_fault rfl (Nat.le_of_ble_eq_true rfl) (lv := [(0, .ref w), (1, .int f)]) rfl ?_
  refine mm_iload_n dX7_fault_0 rfl rfl ?_
  refine mm_iconst 0 dX7_fault_1 rfl ?_
  refine mm_iconst 2 dX7_fault_2 rfl ?_
  refine mm_Si (N := mX7_within) (as := [_, _, _]) dX7_fault_3 lk_X7_136 okX7_within (by decide) rfl rfl (by decide) c_within (fun r2 J2 hq => ?_)
  obtain ⟨rfl, hJ⟩ := hq
  subst J2
  refine mm_if_ne 12 dX7_fault_6 (by decide) (fun c_6 => ?_) (fun c_6 => ?_)
  · skip
    have y1 := if_yes c_6
    refine mm_aload_n dX7_fault_12 rfl rfl ?_
    refine mm_getR dX7_fault_13 fl_X7_33 rfl (by assumption) (by assumption) ?_
    refine mm_aload_n dX7_fault_16 rfl rfl ?_
    refine mm_getR dX7_fault_17 fl_X7_26 rfl (by assumption) (by assumption) ?_
    refine mm_aload_n dX7_fault_20 rfl rfl ?_
    refine mm_getR dX7_fault_21 fl_X7_10 rfl (by assumption) (by assumption) ?_
    refine mm_Vv (N := mX6_run) (ci := 6) (as := [_, _]) dX7_fault_24 lk_X7_141 okX6_run (by decide) rfl (by decide) rfl (by assumption) rfl (by decide) (c_run (R := R) wT wO wE (by omega) (by omega) hA.2.2 hA.1 hi hRR) (fun J1 hq => ?_)
    obtain ⟨k1, k2, k3, k4⟩ := hq
    obtain ⟨k5, k6⟩ := k4.wf hA
    refine mm_aload_n dX7_fault_27 rfl rfl ?_
    refine mm_getR dX7_fault_28 fl_X7_33 rfl (by assumption) (by assumption) ?_
    refine mm_getI dX7_fault_31 fl_X7_145 rfl (by assumption) ?_
    refine mm_if_ne 40 dX7_fault_34 (by decide) (fun c_34 => ?_) (fun c_34 => ?_)
    · skip
      have hb : R.1 = false := by
        cases h : R.1 with
        | true => exact absurd (k2 h).1 c_34
        | false => rfl
      have hnb : ¬ R.1 = true := fun q => by rw [hb] at q; cases q
      obtain ⟨b1, b2, b3, b4⟩ := k3 hb
      have hsp : sq_fault R f = if f = 0 then nI R.2.2.2.1 else if f = 1 then R.2.2.2.2.1 else R.2.2.2.2.2 := (if_neg (fun q => q y1)).trans (if_neg hnb)
      refine mm_iload_n dX7_fault_40 rfl rfl ?_
      by_cases e0 : f = nI 0
      · subst e0
        have hfin : sq_fault R (nI 0) = nI R.2.2.2.1 := hsp.trans (if_pos rfl)
        refine mm_lookup (off := 27) 68 dX7_fault_41 (by decide) (by decide) (by decide) ?_
        refine mm_aload_n dX7_fault_68 rfl rfl ?_
        refine mm_getR dX7_fault_69 fl_X7_33 rfl (by assumption) (by assumption) ?_
        refine mm_getI dX7_fault_72 fl_X7_149 rfl (by assumption) ?_
        refine mm_tope (y := nI R.2.2.2.1) b3 ?_
        refine mm_iret dX7_fault_75 rfl ?_
        exact ⟨rfl, _, rfl, hfin.symm, k5, k6⟩
      · skip
        by_cases e1 : f = nI 1
        · subst e1
          have hfin : sq_fault R (nI 1) = R.2.2.2.2.1 := hsp.trans ((if_neg (by decide)).trans (if_pos rfl))
          refine mm_lookup (off := 35) 76 dX7_fault_41 (by decide) (by decide) (by decide) ?_
          refine mm_aload_n dX7_fault_76 rfl rfl ?_
          refine mm_getR dX7_fault_77 fl_X7_33 rfl (by assumption) (by assumption) ?_
          refine mm_getI dX7_fault_80 fl_X7_145 rfl (by assumption) ?_
          refine mm_tope (y := R.2.2.2.2.1) b1 ?_
          refine mm_iret dX7_fault_83 rfl ?_
          exact ⟨rfl, _, rfl, hfin.symm, k5, k6⟩
        · skip
          have hfin : sq_fault R f = R.2.2.2.2.2 := hsp.trans ((if_neg e0).trans (if_neg e1))
          refine mm_lookup (off := 43) 84 dX7_fault_41 (by decide) (lk_out2 (fun q => e0 (int_lit q)) (fun q => e1 (int_lit q))) (by decide) ?_
          refine mm_aload_n dX7_fault_84 rfl rfl ?_
          refine mm_getR dX7_fault_85 fl_X7_33 rfl (by assumption) (by assumption) ?_
          refine mm_getI dX7_fault_88 fl_X7_152 rfl (by assumption) ?_
          refine mm_tope (y := R.2.2.2.2.2) b4 ?_
          refine mm_iret dX7_fault_91 rfl ?_
          exact ⟨rfl, _, rfl, hfin.symm, k5, k6⟩
    · skip
      have hb : R.1 = true := by
        cases h : R.1 with
        | true => rfl
        | false => exact absurd c_34 (k3 h).2.1
      refine mm_ldc dX7_fault_37 ct_X7_148 ?_
      refine mm_iret dX7_fault_39 rfl ?_
      exact ⟨rfl, _, rfl, ((if_neg (fun q => q y1)).trans (if_pos hb)).symm, k5, k6⟩
  · skip
    have n1 := if_no c_6
    refine mm_ldc dX7_fault_9 ct_X7_140 ?_
    refine mm_iret dX7_fault_11 rfl ?_
    exact ⟨rfl, _, rfl, (if_pos n1).symm, hA, wf_fr.rf⟩
set_option maxRecDepth 100000 in
set_option maxHeartbeats 4000000 in
theorem c_play {S : mm_S} {I : mm_I} {w nx n ty : Nat} {hs : Nat → Nat → Int32} {x : Nat → Nat} {s : Nat → Int32} (hW : mm_wine S w) (hA : wf_at I w s nx n hs ty x) (hi : Inv s) : mm_ci mX7_play [.ref w] S I (fun q J => wf_fr w I J ∧ if (plR (cc ty x) ty s).1 = true then q = nI (plR (cc ty x) ty s).2.2.1 ∧ wf_at J w (plR (cc ty x) ty s).2.1 (nxUp nx) (pushN n) (pushH n hs s) ty x else q = -2000000002 ∧ wf_at J w s nx n hs ty x) := by
  have hW0 := hW
  obtain ⟨wk, wp0, wp1, wp2, wp3, wE, wH, wO, wT⟩ := hW
  have wEk : (S.2.1 (w + 1)).1 = 2 := wE.1
  have wHk : (S.2.1 (w + 44)).1 = 3 := wH.1
  have wOk : (S.2.1 (w + 261)).1 = 5 := wO.1
  have wTk : (S.2.1 (w + 264)).1 = 6 := wT.1
  have wTp : S.2.2 (w + 264) 0 = some (w + 264 + 1) := wT.2.1
  have hcnt := plR_cnt (c := cc ty x) (ty := ty) (s := s)
  have hinv := plR_inv (c := cc ty x) (ty := ty) hi
  generalize hRR : plR (cc ty x) ty s = R at hcnt hinv
  refine mm_ci.of okX7_play rfl (Nat.le_of_ble_eq_true rfl) (lv := [(0, .ref w)]) rfl ?_
  refine mm_aload_n dX7_play_0 rfl rfl ?_
  refine mm_getR dX7_play_1 fl_X7_33 rfl (by assumption) (by assumption) ?_
  refine mm_aload_n dX7_play_4 rfl rfl ?_
  refine mm_getR dX7_play_5 fl_X7_26 rfl (by assumption) (by assumption) ?_
  refine mm_aload_n dX7_play_8 rfl rfl ?_
  refine mm_getR dX7_play_9 fl_X7_10 rfl (by assumption) (by assumption) ?_
  refine mm_Vv (N := mX6_run) (ci := 6) (as := [_, _]) dX7_play_12 lk_X7_141 okX6_run (by decide) rfl (by decide) rfl (by assumption) rfl (by decide) (c_run (R := R) wT wO wE (by omega) (by omega) hA.2.2 hA.1 hi hRR) (fun J1 hq => ?_)
  obtain ⟨k1, k2, k3, k4⟩ := hq
  obtain ⟨k5, k6⟩ := k4.wf hA
  refine mm_aload_n dX7_play_15 rfl rfl ?_
  refine mm_getR dX7_play_16 fl_X7_33 rfl (by assumption) (by assumption) ?_
  refine mm_getI dX7_play_19 fl_X7_145 rfl (by assumption) ?_
  refine mm_if_eq 28 dX7_play_22 (by decide) (fun c_22 => ?_) (fun c_22 => ?_)
  · skip
    have hb : R.1 = true := by
      cases h : R.1 with
      | true => rfl
      | false => exact absurd c_22 (k3 h).2.1
    refine mm_aload_n dX7_play_28 rfl rfl ?_
    refine mm_getR dX7_play_29 fl_X7_19 rfl (by assumption) (by assumption) ?_
    refine mm_aload_n dX7_play_32 rfl rfl ?_
    refine mm_getR dX7_play_33 fl_X7_10 rfl (by assumption) (by assumption) ?_
    refine mm_Vv (N := mX3_draft) (ci := 3) (as := [_]) dX7_play_36 lk_X7_37 okX3_draft (by decide) rfl (by decide) rfl (by assumption) rfl (by decide) (c_draft wH wE (by omega) k5.2.1 k5.1 hi) (fun J2 hq => ?_)
    obtain ⟨d1, d2⟩ := hq
    have hxn := k5.2.1.1
    have d3 := his_draft k5.2.1 d2
    have d5 : ot_at J2 (w + 261) ty x := k5.2.2.fr (d2 _ (by omega)) (d2 _ (by omega))
    have d6 : wf_fr w I J2 := k6.tr (fun c hc => d2 c (by omega))
    have d7 : est_at J2 (w + 264 + 1) R.2.1 := est_fr k1 (fun c c1 c2 => d2 c (by omega))
    have d8 : J2 (w + 264) 1 = nI R.2.2.1 := by rw [d2 _ (by omega)]; exact (k2 hb).2
    refine mm_aload_n dX7_play_39 rfl rfl ?_
    refine mm_getR dX7_play_40 fl_X7_10 rfl (by assumption) (by assumption) ?_
    refine mm_aload_n dX7_play_43 rfl rfl ?_
    refine mm_getR dX7_play_44 fl_X7_33 rfl (by assumption) (by assumption) ?_
    refine mm_getR dX7_play_47 fl_X7_156 rfl (by assumption) (by assumption) ?_
    refine mm_Vv (N := mX2_copyEstate) (ci := 2) (as := [_]) dX7_play_50 lk_X7_159 okX2_copyEstate (by decide) rfl (by decide) rfl (by assumption) rfl (by decide) (c_copyEstate wE wT.2.2 (by omega) d7 hinv) (fun J3 hq => ?_)
    obtain ⟨e1, e2⟩ := hq
    have e3 := d3.fr (J := J3) (fun c c1 c2 => e2 c (by omega))
    have e4 := est_fr (J := J3) d1 (fun c c1 c2 => e2 c (by omega))
    have e5 : ot_at J3 (w + 261) ty x := d5.fr (e2 _ (by omega)) (e2 _ (by omega))
    have e6 : wf_fr w I J3 := d6.tr (fun c hc => e2 c (by omega))
    have e8 : J3 (w + 264) 1 = nI R.2.2.1 := by rw [e2 _ (by omega)]; exact d8
    refine mm_aload_n dX7_play_53 rfl rfl ?_
    refine mm_aload_n dX7_play_54 rfl rfl ?_
    refine mm_getR dX7_play_55 fl_X7_33 rfl (by assumption) (by assumption) ?_
    refine mm_getI dX7_play_58 fl_X7_162 rfl (by assumption) ?_
    refine mm_tope (y := nI R.2.2.1) e8 ?_
    refine mm_Vi (N := mX7_settled) (ci := 7) (as := [_]) dX7_play_61 lk_X7_45 okX7_settled (by decide) rfl (by decide) rfl (by assumption) rfl (by decide) (c_settled hW0 e3.2.2.1 e3.2.2.2.1 e3.1 e3.2.1) (fun r3 J4 hq => ?_)
    obtain ⟨rfl, g1, g2⟩ := hq
    have g3 := g1 (nI_pos' (by omega))
    subst g3
    refine mm_iret dX7_play_64 rfl ?_
    exact ⟨rfl, _, rfl, e6.tr (fun c hc => by rw [mm_wr_row (by omega), mm_wr_row (by omega)]), Eq.mpr (if_pos hb) ⟨rfl, est_fr e1 (fun c c1 c2 => by rw [mm_wr_row (by omega), mm_wr_row (by omega)]), his_keep e3 e4 (fun c hc => by rw [mm_wr_row hc, mm_wr_row hc]) ((mm_wr_k (by omega)).trans mm_wr_s) mm_wr_s, e5.fr (by rw [mm_wr_row (by omega), mm_wr_row (by omega)]) (by rw [mm_wr_row (by omega), mm_wr_row (by omega)])⟩⟩
  · skip
    have hb : R.1 = false := by
      cases h : R.1 with
      | true => exact absurd (k2 h).1 c_22
      | false => rfl
    have hnb : ¬ R.1 = true := fun q => by rw [hb] at q; cases q
    obtain ⟨b1, b2, b3, b4⟩ := k3 hb
    refine mm_ldc dX7_play_25 ct_X7_155 ?_
    refine mm_iret dX7_play_27 rfl ?_
    exact ⟨rfl, _, rfl, k6, Eq.mpr (if_neg hnb) ⟨rfl, k5⟩⟩
