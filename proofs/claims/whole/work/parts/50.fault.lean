/-! THE REFERENCE: fault and play -/
def plR (c : Nat → Nat) (ty : Nat) (s : Nat → Int32) : PlT := pl c ty 61 0 0 s (fun _ => 0)
def sq_fault (R : PlT) (w : Int32) : Int32 := if ¬ (0 ≤ w ∧ w ≤ 2) then -2000000001 else if R.1 = true then -2000000004 else if w = 0 then nI R.2.2.2.1 else if w = 1 then R.2.2.2.2.1 else R.2.2.2.2.2
/-- what a fault leaves alone -/
def r_fl (m : Nat) (I J : mm_I) : Prop := J (m + 1) = I (m + 1) ∧ (∀ c, c ≠ m → c ≠ m + 1 → c ≠ m + 3 → c ≠ m + 5 → c ≠ m + 6 → J c = I c) ∧ J m 3 = I m 3 ∧ J m 6 = I m 6 ∧ J m 4 = 0
theorem mm_row_n {I : mm_I} {b n : Nat} {f : Nat → Int32} {c : Nat} (h : c ≠ b) : mm_row I b n f c = I c := by
  funext j
  simp [mm_row, h]
theorem mm_row_o {I : mm_I} {b n j : Nat} {f : Nat → Int32} (h : ¬ j < n) : mm_row I b n f b j = I b j := by simp [mm_row, h]
/-- tried: the state is copied away, the text played, the state copied back -/
theorem tried {S : mm_S} {I J2 : mm_I} {m ty : Nat} {x : Nat → Nat} (hi : Inv (I (m + 1))) (h1 : J2 (m + 1) = (plR (cc ty x) ty (I (m + 1))).2.1) (h4 : J2 m 4 = 0) (hp : r_pl m (mm_row I (m + 3) 316 (I (m + 1))) J2) : r_fl m I (mm_row J2 (m + 1) 316 (J2 (m + 3))) := by
  refine ⟨?_, fun c q1 q2 q3 q4 q5 => ?_, ?_, ?_, ?_⟩
  · funext j
    by_cases hj : j < 316
    · rw [mm_row_in hj, hp.1 (m + 3) (by omega) (by omega) (by omega) (by omega), mm_row_in hj]
    · rw [mm_row_o hj, h1]
      exact (pl_hi (by omega) 61 0 0 _ _ hi).2
  · rw [mm_row_n q2, hp.1 c q1 q2 q4 q5, mm_row_n q3]
  · rw [mm_row_n (by omega), hp.2.1, mm_row_n (by omega)]
  · rw [mm_row_n (by omega), hp.2.2, mm_row_n (by omega)]
  · rw [mm_row_n (by omega)]; exact h4

set_option maxRecDepth 100000 in
set_option maxHeartbeats 4000000 in
theorem r_fault {S : mm_S} {I : mm_I} {m ty : Nat} {x : Nat → Nat} {w : Int32} (hM : mm_ref S m) (hT : tx_at I m ty x) (hi : Inv (I (m + 1))) (hrun : I m 4 = 0) : mm_ci mX8_fault [.ref m, .int w] S I (fun q J => q = sq_fault (plR (cc ty x) ty (I (m + 1))) w ∧ r_fl m I J) := by
  have hM0 := hM
  obtain ⟨hk, hp0, hp1, hp2, hp5, hp7, hp15, hk1, hk2, hk3, hk4, hk5, hk6⟩ := hM
  refine mm_ci.of okX8_fault rfl (Nat.le_of_ble_eq_true rfl) (lv := [(0, .ref m), (1, .int w)]) rfl ?_
  refine mm_iload_n dX8_fault_0 rfl rfl ?_
  refine mm_iconst 0 dX8_fault_1 rfl ?_
  refine mm_iconst 2 dX8_fault_2 rfl ?_
  refine mm_Si (N := mX8_in) (as := [_, _, _]) dX8_fault_3 lk_X8_72 okX8_in (by decide) rfl rfl (by decide) r_in (fun r1 J1 hq => ?_)
  obtain ⟨rfl, hJ⟩ := hq
  subst J1
  refine mm_if_ne 12 dX8_fault_6 (by decide) (fun c_6 => ?_) (fun c_6 => ?_)
  · skip
    have y1 := if_yes c_6
    refine mm_aload_n dX8_fault_12 rfl rfl ?_
    refine mm_getR dX8_fault_13 fl_X8_7 rfl (by assumption) (by assumption) ?_
    refine mm_aload_n dX8_fault_16 rfl rfl ?_
    refine mm_getR dX8_fault_17 fl_X8_16 rfl (by assumption) (by assumption) ?_
    refine mm_Sv (N := mX8_copies) (as := [_, _]) dX8_fault_20 lk_X8_203 okX8_copies (by decide) rfl rfl (by decide) (r_copies hk1 hk3) (fun J1 hq => ?_)
    subst hq
    have hT1 : tx_at (mm_row I (m + 3) 316 (I (m + 1))) m ty x := ⟨by rw [mm_row_n (by omega)]; exact hT.1, hT.2.1, fun p hp => by rw [mm_row_n (by omega)]; exact hT.2.2 p hp⟩
    have hs1 : mm_row I (m + 3) 316 (I (m + 1)) (m + 1) = I (m + 1) := mm_row_n (by omega)
    have hRR : pl (cc ty x) ty 61 0 0 (mm_row I (m + 3) 316 (I (m + 1)) (m + 1)) (mm_row I (m + 3) 316 (I (m + 1)) (m + 6)) = plR (cc ty x) ty (I (m + 1)) := by rw [hs1]; exact pl_v _ _ _ _ _ _
    refine mm_aload_n dX8_fault_23 rfl rfl ?_
    refine mm_Vi (N := mX8_plays) (ci := 8) (as := []) dX8_fault_24 lk_X8_207 okX8_plays (by decide) rfl (by decide) rfl (by assumption) rfl (by decide) (r_plays hM0 hT1 (by rw [hs1]; exact hi) hRR) (fun r2 J2 hq => ?_)
    obtain ⟨rfl, k1, k13, kb, k4, kf⟩ := hq
    refine mm_istore_n dX8_fault_27 rfl (Nat.le_of_ble_eq_true rfl) ?_
    refine mm_aload_n dX8_fault_28 rfl rfl ?_
    refine mm_getR dX8_fault_29 fl_X8_16 rfl (by assumption) (by assumption) ?_
    refine mm_aload_n dX8_fault_32 rfl rfl ?_
    refine mm_getR dX8_fault_33 fl_X8_7 rfl (by assumption) (by assumption) ?_
    refine mm_Sv (N := mX8_copies) (as := [_, _]) dX8_fault_36 lk_X8_203 okX8_copies (by decide) rfl rfl (by decide) (r_copies hk3 hk1) (fun J3 hq => ?_)
    subst hq
    have hfl := tried (S := S) hi k1 k4 kf
    have F10 : mm_row J2 (m + 1) 316 (J2 (m + 3)) m = J2 m := mm_row_n (by omega)
    refine mm_iload_n dX8_fault_39 rfl rfl ?_
    refine mm_if_eq 48 dX8_fault_40 (by decide) (fun c_40 => ?_) (fun c_40 => ?_)
    · skip
      have n2 := if_no c_40
      have kb := kb (Bool.eq_false_iff.mpr n2)
      refine mm_iload_n dX8_fault_48 rfl rfl ?_
      refine mm_if_ne 59 dX8_fault_49 (by decide) (fun c_49 => ?_) (fun c_49 => ?_)
      · skip
        refine mm_iload_n dX8_fault_59 rfl rfl ?_
        refine mm_iconst 1 dX8_fault_60 rfl ?_
        refine mm_icmp_ne 71 dX8_fault_61 (by decide) (fun c_61 => ?_) (fun c_61 => ?_)
        · skip
          refine mm_aload_n dX8_fault_71 rfl rfl ?_
          refine mm_getI dX8_fault_72 fl_X8_200 rfl (by assumption) ?_
          refine mm_tope (y := J2 m 12) (by rw [F10]) ?_
          refine mm_iret dX8_fault_75 rfl ?_
          refine ⟨rfl, _, rfl, ?_, hfl⟩
          unfold sq_fault
          rw [if_neg (fun q => q y1)]
          first
            | (rw [if_pos y2]; done)
            | (rw [if_neg n2, if_pos (Classical.not_not.mp c_49)]; exact kb.1)
            | (rw [if_neg n2, if_pos c_49]; exact kb.1)
            | (rw [if_neg n2, if_neg c_49, if_pos (Classical.not_not.mp c_61)]; exact kb.2.1)
            | (rw [if_neg n2, if_neg c_49, if_pos c_61]; exact kb.2.1)
            | (rw [if_neg n2, if_neg c_49, if_neg c_61]; exact kb.2.2)
        · skip
          refine mm_aload_n dX8_fault_64 rfl rfl ?_
          refine mm_getI dX8_fault_65 fl_X8_197 rfl (by assumption) ?_
          refine mm_tope (y := J2 m 11) (by rw [F10]) ?_
          refine mm_goto 75 dX8_fault_68 (by decide) ?_
          refine mm_iret dX8_fault_75 rfl ?_
          refine ⟨rfl, _, rfl, ?_, hfl⟩
          unfold sq_fault
          rw [if_neg (fun q => q y1)]
          first
            | (rw [if_pos y2]; done)
            | (rw [if_neg n2, if_pos (Classical.not_not.mp c_49)]; exact kb.1)
            | (rw [if_neg n2, if_pos c_49]; exact kb.1)
            | (rw [if_neg n2, if_neg c_49, if_pos (Classical.not_not.mp c_61)]; exact kb.2.1)
            | (rw [if_neg n2, if_neg c_49, if_pos c_61]; exact kb.2.1)
            | (rw [if_neg n2, if_neg c_49, if_neg c_61]; exact kb.2.2)
      · skip
        refine mm_aload_n dX8_fault_52 rfl rfl ?_
        refine mm_getI dX8_fault_53 fl_X8_184 rfl (by assumption) ?_
        refine mm_tope (y := J2 m 10) (by rw [F10]) ?_
        refine mm_goto 75 dX8_fault_56 (by decide) ?_
        refine mm_iret dX8_fault_75 rfl ?_
        refine ⟨rfl, _, rfl, ?_, hfl⟩
        unfold sq_fault
        rw [if_neg (fun q => q y1)]
        first
          | (rw [if_pos y2]; done)
          | (rw [if_neg n2, if_pos (Classical.not_not.mp c_49)]; exact kb.1)
          | (rw [if_neg n2, if_pos c_49]; exact kb.1)
          | (rw [if_neg n2, if_neg c_49, if_pos (Classical.not_not.mp c_61)]; exact kb.2.1)
          | (rw [if_neg n2, if_neg c_49, if_pos c_61]; exact kb.2.1)
          | (rw [if_neg n2, if_neg c_49, if_neg c_61]; exact kb.2.2)
    · skip
      have y2 := if_yes c_40
      refine mm_ldc dX8_fault_43 ct_X8_57 ?_
      refine mm_goto 75 dX8_fault_45 (by decide) ?_
      refine mm_iret dX8_fault_75 rfl ?_
      refine ⟨rfl, _, rfl, ?_, hfl⟩
      unfold sq_fault
      rw [if_neg (fun q => q y1)]
      first
        | (rw [if_pos y2]; done)
        | (rw [if_neg n2, if_pos (Classical.not_not.mp c_49)]; exact kb.1)
        | (rw [if_neg n2, if_pos c_49]; exact kb.1)
        | (rw [if_neg n2, if_neg c_49, if_pos (Classical.not_not.mp c_61)]; exact kb.2.1)
        | (rw [if_neg n2, if_neg c_49, if_pos c_61]; exact kb.2.1)
        | (rw [if_neg n2, if_neg c_49, if_neg c_61]; exact kb.2.2)
  · skip
    have n1 := if_no c_6
    refine mm_ldc dX8_fault_9 ct_X8_76 ?_
    refine mm_iret dX8_fault_11 rfl ?_
    exact ⟨rfl, _, rfl, (if_pos n1).symm, rfl, fun _ _ _ _ _ _ => rfl, rfl, rfl, hrun⟩
set_option maxRecDepth 100000 in
set_option maxHeartbeats 4000000 in
theorem r_play {S : mm_S} {I : mm_I} {m n ty : Nat} {hs : Nat → Nat → Int32} {x : Nat → Nat} (hM : mm_ref S m) (hT : tx_at I m ty x) (hi : Inv (I (m + 1))) (hrun : I m 4 = 0) (hh : hist_r I m n hs) : mm_ci mX8_play [.ref m] S I (fun q J => if (plR (cc ty x) ty (I (m + 1))).1 = true then q = nI (plR (cc ty x) ty (I (m + 1))).2.2.1 ∧ J (m + 1) = (plR (cc ty x) ty (I (m + 1))).2.1 ∧ hist_r J m (pushN n) (pushH n hs (I (m + 1))) ∧ (∀ c, c ≠ m → c ≠ m + 1 → c ≠ m + 2 → c ≠ m + 3 → c ≠ m + 5 → c ≠ m + 6 → J c = I c) ∧ J m 6 = I m 6 ∧ J m 4 = 0 else q = -2000000002 ∧ r_fl m I J) := by
  have hM0 := hM
  obtain ⟨hk, hp0, hp1, hp2, hp5, hp7, hp15, hk1, hk2, hk3, hk4, hk5, hk6⟩ := hM
  refine mm_ci.of okX8_play rfl (Nat.le_of_ble_eq_true rfl) (lv := [(0, .ref m)]) rfl ?_
  refine mm_aload_n dX8_play_0 rfl rfl ?_
  refine mm_getR dX8_play_1 fl_X8_7 rfl (by assumption) (by assumption) ?_
  refine mm_aload_n dX8_play_4 rfl rfl ?_
  refine mm_getR dX8_play_5 fl_X8_16 rfl (by assumption) (by assumption) ?_
  refine mm_Sv (N := mX8_copies) (as := [_, _]) dX8_play_8 lk_X8_203 okX8_copies (by decide) rfl rfl (by decide) (r_copies hk1 hk3) (fun J1 hq => ?_)
  subst hq
  have hT1 : tx_at (mm_row I (m + 3) 316 (I (m + 1))) m ty x := ⟨by rw [mm_row_n (by omega)]; exact hT.1, hT.2.1, fun p hp => by rw [mm_row_n (by omega)]; exact hT.2.2 p hp⟩
  have hs1 : mm_row I (m + 3) 316 (I (m + 1)) (m + 1) = I (m + 1) := mm_row_n (by omega)
  have hRR : pl (cc ty x) ty 61 0 0 (mm_row I (m + 3) 316 (I (m + 1)) (m + 1)) (mm_row I (m + 3) 316 (I (m + 1)) (m + 6)) = plR (cc ty x) ty (I (m + 1)) := by rw [hs1]; exact pl_v _ _ _ _ _ _
  refine mm_aload_n dX8_play_11 rfl rfl ?_
  refine mm_Vi (N := mX8_plays) (ci := 8) (as := []) dX8_play_12 lk_X8_207 okX8_plays (by decide) rfl (by decide) rfl (by assumption) rfl (by decide) (r_plays hM0 hT1 (by rw [hs1]; exact hi) hRR) (fun r2 J2 hq => ?_)
  obtain ⟨rfl, k1, k13, kb, k4, kf⟩ := hq
  refine mm_istore_n dX8_play_15 rfl (Nat.le_of_ble_eq_true rfl) ?_
  refine mm_aload_n dX8_play_16 rfl rfl ?_
  refine mm_getR dX8_play_17 fl_X8_16 rfl (by assumption) (by assumption) ?_
  refine mm_aload_n dX8_play_20 rfl rfl ?_
  refine mm_getR dX8_play_21 fl_X8_7 rfl (by assumption) (by assumption) ?_
  refine mm_Sv (N := mX8_copies) (as := [_, _]) dX8_play_24 lk_X8_203 okX8_copies (by decide) rfl rfl (by decide) (r_copies hk3 hk1) (fun J3 hq => ?_)
  subst hq
  have hfl := tried (S := S) hi k1 k4 kf
  have F10 : mm_row J2 (m + 1) 316 (J2 (m + 3)) m = J2 m := mm_row_n (by omega)
  generalize mm_row J2 (m + 1) 316 (J2 (m + 3)) = J3 at hfl F10 ⊢
  obtain ⟨z1, z2, z3, z6, z4⟩ := hfl
  refine mm_iload_n dX8_play_27 rfl rfl ?_
  refine mm_if_ne 34 dX8_play_28 (by decide) (fun c_28 => ?_) (fun c_28 => ?_)
  · skip
    have y2 := if_yes c_28
    have hh3 : hist_r J3 m n hs := hh.of z3 (z2 (m + 2) (by omega) (by omega) (by omega) (by omega) (by omega))
    refine mm_aload_n dX8_play_34 rfl rfl ?_
    refine mm_Vv (N := mX8_changes) (ci := 8) (as := []) dX8_play_35 lk_X8_78 okX8_changes (by decide) rfl (by decide) rfl (by assumption) rfl (by decide) (r_changes0 hM0 z4 hh3) (fun J4 hq => ?_)
    obtain ⟨g1, g2, g3⟩ := hq
    rw [z1] at g1
    have hs4 : J4 (m + 1) = I (m + 1) := (g2 (m + 1) (by omega) (by omega)).trans z1
    have hT4 : tx_at J4 m ty x := ⟨(g3 6 (by decide)).trans (z6.trans hT.1), hT.2.1, fun p hp => by rw [g2 (m + 4) (by omega) (by omega), z2 (m + 4) (by omega) (by omega) (by omega) (by omega) (by omega)]; exact hT.2.2 p hp⟩
    have hRR4 : pl (cc ty x) ty 61 0 0 (J4 (m + 1)) (J4 (m + 6)) = plR (cc ty x) ty (I (m + 1)) := by rw [hs4]; exact pl_v _ _ _ _ _ _
    refine mm_aload_n dX8_play_38 rfl rfl ?_
    refine mm_Vi (N := mX8_plays) (ci := 8) (as := []) dX8_play_39 lk_X8_207 okX8_plays (by decide) rfl (by decide) rfl (by assumption) rfl (by decide) (r_plays hM0 hT4 (by rw [hs4]; exact hi) hRR4) (fun r5 J5 hq => ?_)
    obtain ⟨rfl, l1, l13, lb, l4, lf⟩ := hq
    rw [if_pos y2]
    refine mm_if_eq 52 dX8_play_42 (by decide) (fun c_42 => absurd c_42 (by decide)) (fun c_42 => ?_)
    refine mm_aload_n dX8_play_45 rfl rfl ?_
    refine mm_getI dX8_play_46 fl_X8_187 rfl (by assumption) ?_
    refine mm_tope (y := nI (plR (cc ty x) ty (I (m + 1))).2.2.1) l13 ?_
    refine mm_goto 54 dX8_play_49 (by decide) ?_
    refine mm_iret dX8_play_54 rfl ?_
    exact ⟨rfl, _, rfl, Eq.mpr (if_pos y2) ⟨rfl, l1, g1.of lf.2.1 (lf.1 (m + 2) (by omega) (by omega) (by omega) (by omega)), fun c q1 q2 q3 q4 q5 q6 => by rw [lf.1 c q1 q2 q5 q6, g2 c q1 q3, z2 c q1 q2 q4 q5 q6], lf.2.2.trans ((g3 6 (by decide)).trans z6), l4⟩⟩
  · skip
    have n2 := if_no c_28
    refine mm_ldc dX8_play_31 ct_X8_91 ?_
    refine mm_iret dX8_play_33 rfl ?_
    exact ⟨rfl, _, rfl, Eq.mpr (if_neg n2) ⟨rfl, z1, z2, z3, z6, z4⟩⟩
