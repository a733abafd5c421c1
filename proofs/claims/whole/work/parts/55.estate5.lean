/-! THE CLASS: the settings -/
theorem w01 {w : Int32} (h : 0 ≤ w ∧ w ≤ 1) : w = 0 ∨ w = 1 := by
  obtain ⟨W, hW, rfl, _⟩ := int_n (n := 1) rfl (by omega) h
  rcases Nat.eq_zero_or_pos W with e | e
  · exact Or.inl (by rw [e]; rfl)
  · exact Or.inr (by rw [show W = 1 by omega]; rfl)
theorem sp_set_0 {s : Nat → Int32} {v : Int32} (h : 0 ≤ v ∧ v ≤ 100) : sp_set s 0 v = (s 7, upd s 7 v) := by
  unfold sp_set
  rw [if_neg (fun q => q ⟨by decide, by rw [if_pos rfl]; exact h⟩)]
  rfl
theorem sp_set_1 {s : Nat → Int32} {v : Int32} (h : 0 ≤ v ∧ v ≤ 36) : sp_set s 1 v = (s 8, upd s 8 v) := by
  unfold sp_set
  rw [if_neg (fun q => q ⟨by decide, by rw [if_neg (by decide)]; exact h⟩)]
  rfl
theorem sp_set_e {s : Nat → Int32} {w v : Int32} (h0 : w = 0 → ¬ (0 ≤ v ∧ v ≤ 100)) (h1 : w = 1 → ¬ (0 ≤ v ∧ v ≤ 36)) : sp_set s w v = (-2000000001, s) := by
  unfold sp_set
  rw [if_pos]
  intro q
  have q2 := q.2
  rcases w01 q.1 with e | e
  · rw [if_pos e] at q2; exact h0 e q2
  · rw [if_neg (by rw [e]; decide)] at q2; exact h1 e q2

set_option maxRecDepth 100000 in
set_option maxHeartbeats 4000000 in
theorem c_changeSetting {S : mm_S} {I : mm_I} {e : Nat} {s : Nat → Int32} {w v : Int32} (hE : mm_est S e) (hs : est_at I e s) (hi : Inv s) : mm_ci mX2_changeSetting [.ref e, .int w, .int v] S I (e_Q e I (sp_set s w v)) := by
  obtain ⟨ek, ep0, ep1, ep2, ep3, ek1, ek2, ebk, ebar, elots⟩ := hE
  have e7 := hs.1.2.2.2.1
  have e8 := hs.1.2.2.2.2.1
  refine mm_ci.of okX2_changeSetting rfl (Nat.le_of_ble_eq_true rfl) (lv := [(0, .ref e), (1, .int w), (2, .int v)]) rfl ?_
  refine mm_iload_n dX2_changeSetting_0 rfl rfl ?_
  refine mm_if_ne 26 dX2_changeSetting_1 (by decide) (fun c_1 => ?_) (fun c_1 => ?_)
  · skip
    refine mm_iload_n dX2_changeSetting_26 rfl rfl ?_
    refine mm_iconst 1 dX2_changeSetting_27 rfl ?_
    refine mm_icmp_ne 53 dX2_changeSetting_28 (by decide) (fun c_28 => ?_) (fun c_28 => ?_)
    · skip
      refine mm_ldc dX2_changeSetting_53 ct_X2_81 ?_
      refine mm_iret dX2_changeSetting_55 rfl ?_
      first
        | exact ⟨rfl, _, rfl, e_Q_err (sp_set_e (fun _ => n1) (fun _ => n2)) hs⟩
        | exact ⟨rfl, _, rfl, e_Q_err (sp_set_e (fun q => absurd q c_1) (fun _ => n2)) hs⟩
        | exact ⟨rfl, _, rfl, e_Q_err (sp_set_e (fun _ => n1) (fun q => absurd q c_28)) hs⟩
        | exact ⟨rfl, _, rfl, e_Q_err (sp_set_e (fun q => absurd q c_1) (fun q => absurd q c_28)) hs⟩
    · skip
      refine mm_iload_n dX2_changeSetting_31 rfl rfl ?_
      refine mm_iconst 0 dX2_changeSetting_32 rfl ?_
      refine mm_bipush 36 dX2_changeSetting_33 rfl ?_
      refine mm_SNi (N := mX7_within) (as := [_, _, _]) dX2_changeSetting_35 lk_X2_77 okX7_within (by decide) rfl rfl (by decide) c_within (fun r1 J1 hq => ?_)
      obtain ⟨rfl, hJ⟩ := hq
      subst J1
      refine mm_if_eq 53 dX2_changeSetting_38 (by decide) (fun c_38 => ?_) (fun c_38 => ?_)
      · skip
        have n2 := if_no c_38
        refine mm_ldc dX2_changeSetting_53 ct_X2_81 ?_
        refine mm_iret dX2_changeSetting_55 rfl ?_
        first
          | exact ⟨rfl, _, rfl, e_Q_err (sp_set_e (fun _ => n1) (fun _ => n2)) hs⟩
          | exact ⟨rfl, _, rfl, e_Q_err (sp_set_e (fun q => absurd q c_1) (fun _ => n2)) hs⟩
          | exact ⟨rfl, _, rfl, e_Q_err (sp_set_e (fun _ => n1) (fun q => absurd q c_28)) hs⟩
          | exact ⟨rfl, _, rfl, e_Q_err (sp_set_e (fun q => absurd q c_1) (fun q => absurd q c_28)) hs⟩
      · skip
        have y2 := if_yes c_38
        subst c_28
        refine mm_aload_n dX2_changeSetting_41 rfl rfl ?_
        refine mm_getI dX2_changeSetting_42 fl_X2_39 rfl (by assumption) ?_
        refine mm_tope (y := s 8) e8 ?_
        refine mm_istore_n dX2_changeSetting_45 rfl (Nat.le_of_ble_eq_true rfl) ?_
        refine mm_aload_n dX2_changeSetting_46 rfl rfl ?_
        refine mm_iload_n dX2_changeSetting_47 rfl rfl ?_
        refine mm_putI dX2_changeSetting_48 fl_X2_39 rfl rfl (by assumption) ?_
        refine mm_iload_n dX2_changeSetting_51 rfl rfl ?_
        refine mm_iret dX2_changeSetting_52 rfl ?_
        refine ⟨rfl, _, rfl, ?_⟩
        unfold e_Q
        rw [sp_set_1 y2]
        exact ⟨rfl, est_int hi hs (by omega), e_fr.rf.w (Nat.le_refl _) (by omega)⟩
  · skip
    refine mm_iload_n dX2_changeSetting_4 rfl rfl ?_
    refine mm_iconst 0 dX2_changeSetting_5 rfl ?_
    refine mm_bipush 100 dX2_changeSetting_6 rfl ?_
    refine mm_SNi (N := mX7_within) (as := [_, _, _]) dX2_changeSetting_8 lk_X2_77 okX7_within (by decide) rfl rfl (by decide) c_within (fun r1 J1 hq => ?_)
    obtain ⟨rfl, hJ⟩ := hq
    subst J1
    refine mm_if_eq 26 dX2_changeSetting_11 (by decide) (fun c_11 => ?_) (fun c_11 => ?_)
    · skip
      have n1 := if_no c_11
      refine mm_iload_n dX2_changeSetting_26 rfl rfl ?_
      refine mm_iconst 1 dX2_changeSetting_27 rfl ?_
      refine mm_icmp_ne 53 dX2_changeSetting_28 (by decide) (fun c_28 => ?_) (fun c_28 => ?_)
      · skip
        refine mm_ldc dX2_changeSetting_53 ct_X2_81 ?_
        refine mm_iret dX2_changeSetting_55 rfl ?_
        first
          | exact ⟨rfl, _, rfl, e_Q_err (sp_set_e (fun _ => n1) (fun _ => n2)) hs⟩
          | exact ⟨rfl, _, rfl, e_Q_err (sp_set_e (fun q => absurd q c_1) (fun _ => n2)) hs⟩
          | exact ⟨rfl, _, rfl, e_Q_err (sp_set_e (fun _ => n1) (fun q => absurd q c_28)) hs⟩
          | exact ⟨rfl, _, rfl, e_Q_err (sp_set_e (fun q => absurd q c_1) (fun q => absurd q c_28)) hs⟩
      · skip
        refine mm_iload_n dX2_changeSetting_31 rfl rfl ?_
        refine mm_iconst 0 dX2_changeSetting_32 rfl ?_
        refine mm_bipush 36 dX2_changeSetting_33 rfl ?_
        refine mm_SNi (N := mX7_within) (as := [_, _, _]) dX2_changeSetting_35 lk_X2_77 okX7_within (by decide) rfl rfl (by decide) c_within (fun r1 J1 hq => ?_)
        obtain ⟨rfl, hJ⟩ := hq
        subst J1
        refine mm_if_eq 53 dX2_changeSetting_38 (by decide) (fun c_38 => ?_) (fun c_38 => ?_)
        · skip
          have n2 := if_no c_38
          refine mm_ldc dX2_changeSetting_53 ct_X2_81 ?_
          refine mm_iret dX2_changeSetting_55 rfl ?_
          first
            | exact ⟨rfl, _, rfl, e_Q_err (sp_set_e (fun _ => n1) (fun _ => n2)) hs⟩
            | exact ⟨rfl, _, rfl, e_Q_err (sp_set_e (fun q => absurd q c_1) (fun _ => n2)) hs⟩
            | exact ⟨rfl, _, rfl, e_Q_err (sp_set_e (fun _ => n1) (fun q => absurd q c_28)) hs⟩
            | exact ⟨rfl, _, rfl, e_Q_err (sp_set_e (fun q => absurd q c_1) (fun q => absurd q c_28)) hs⟩
        · skip
          have y2 := if_yes c_38
          subst c_28
          refine mm_aload_n dX2_changeSetting_41 rfl rfl ?_
          refine mm_getI dX2_changeSetting_42 fl_X2_39 rfl (by assumption) ?_
          refine mm_tope (y := s 8) e8 ?_
          refine mm_istore_n dX2_changeSetting_45 rfl (Nat.le_of_ble_eq_true rfl) ?_
          refine mm_aload_n dX2_changeSetting_46 rfl rfl ?_
          refine mm_iload_n dX2_changeSetting_47 rfl rfl ?_
          refine mm_putI dX2_changeSetting_48 fl_X2_39 rfl rfl (by assumption) ?_
          refine mm_iload_n dX2_changeSetting_51 rfl rfl ?_
          refine mm_iret dX2_changeSetting_52 rfl ?_
          refine ⟨rfl, _, rfl, ?_⟩
          unfold e_Q
          rw [sp_set_1 y2]
          exact ⟨rfl, est_int hi hs (by omega), e_fr.rf.w (Nat.le_refl _) (by omega)⟩
    · skip
      have y1 := if_yes c_11
      subst c_1
      refine mm_aload_n dX2_changeSetting_14 rfl rfl ?_
      refine mm_getI dX2_changeSetting_15 fl_X2_35 rfl (by assumption) ?_
      refine mm_tope (y := s 7) e7 ?_
      refine mm_istore_n dX2_changeSetting_18 rfl (Nat.le_of_ble_eq_true rfl) ?_
      refine mm_aload_n dX2_changeSetting_19 rfl rfl ?_
      refine mm_iload_n dX2_changeSetting_20 rfl rfl ?_
      refine mm_putI dX2_changeSetting_21 fl_X2_35 rfl rfl (by assumption) ?_
      refine mm_iload_n dX2_changeSetting_24 rfl rfl ?_
      refine mm_iret dX2_changeSetting_25 rfl ?_
      refine ⟨rfl, _, rfl, ?_⟩
      unfold e_Q
      rw [sp_set_0 y1]
      exact ⟨rfl, est_int hi hs (by omega), e_fr.rf.w (Nat.le_refl _) (by omega)⟩
