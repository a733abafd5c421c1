/-! THE CLASS: addLot -/

set_option maxRecDepth 100000 in
set_option maxHeartbeats 4000000 in
theorem c_lotAtN {S : mm_S} {I : mm_I} {e n L : Nat} (hE : mm_est S e) (h4 : I e 4 = nI n) (hn : n ≤ 6) (hL : L < n) : mm_cr mX2_lotAt [.ref e, .int (nI L)] S I (fun r J => r = some (e + 7 + 6 * L) ∧ J = I) := by
  obtain ⟨ek, ep0, ep1, ep2, ep3, ek1, ek2, ebk, ebar, elots⟩ := hE
  have elot := (elots L (by omega)).1
  refine mm_cr.of okX2_lotAt rfl (Nat.le_of_ble_eq_true rfl) (lv := [(0, .ref e), (1, .int (nI L))]) rfl ?_
  refine mm_iload_n dX2_lotAt_0 rfl rfl ?_
  refine mm_if_lt 30 dX2_lotAt_1 (by decide) (fun c_1 => absurd c_1 (nI_pos (by omega))) (fun c_1 => ?_)
  refine mm_iload_n dX2_lotAt_4 rfl rfl ?_
  refine mm_aload_n dX2_lotAt_5 rfl rfl ?_
  refine mm_getI dX2_lotAt_6 fl_X2_55 rfl (by assumption) ?_
  refine mm_tope (y := nI n) h4 ?_
  refine mm_icmp_ge 30 dX2_lotAt_9 (by decide) (fun c_9 => absurd c_9 (nI_ge (by omega) (by omega))) (fun c_9 => ?_)
  refine mm_iload_n dX2_lotAt_12 rfl rfl ?_
  refine mm_aload_n dX2_lotAt_13 rfl rfl ?_
  refine mm_getR dX2_lotAt_14 fl_X2_11 rfl (by assumption) (by assumption) ?_
  refine mm_alen (t := 1) dX2_lotAt_17 (by assumption) (by decide) 6 rfl ?_
  refine mm_icmp_ge 30 dX2_lotAt_18 (by decide) (fun c_18 => absurd c_18 (nI_ge (b := 6) (by omega) (by omega))) (fun c_18 => ?_)
  refine mm_aload_n dX2_lotAt_21 rfl rfl ?_
  refine mm_getR dX2_lotAt_22 fl_X2_11 rfl (by assumption) (by assumption) ?_
  refine mm_iload_n dX2_lotAt_25 rfl rfl ?_
  refine mm_aald (t := 0) (e + 7 + 6 * L) dX2_lotAt_26 (by assumption) (by decide) (vp_in_nI (n := L) (by omega) (by omega)) (by rw [nI_clamp (by omega)]; exact elot) ?_
  refine mm_goto 31 dX2_lotAt_27 (by decide) ?_
  refine mm_aret (r := some _) dX2_lotAt_31 rfl rfl ?_
  exact ⟨rfl, _, rfl, rfl, rfl⟩
set_option maxRecDepth 100000 in
set_option maxHeartbeats 4000000 in
theorem c_addLot {S : mm_S} {I : mm_I} {e : Nat} {s : Nat → Int32} {b r : Int32} (hE : mm_est S e) (hs : est_at I e s) (hi : Inv s) : mm_ci mX2_addLot [.ref e, .int b, .int r] S I (e_Q e I (sp_lot s b r)) := by
  have hE0 := hE
  obtain ⟨ek, ep0, ep1, ep2, ep3, ek1, ek2, ebk, ebar, elots⟩ := hE
  have h0 := hi.1.1
  generalize hL : sv s 0 = L at h0
  have h4n : I e 4 = nI L := hs.1.1.trans h0.1
  refine mm_ci.of okX2_addLot rfl (Nat.le_of_ble_eq_true rfl) (lv := [(0, .ref e), (1, .int b), (2, .int r)]) rfl ?_
  refine mm_iload_n dX2_addLot_0 rfl rfl ?_
  refine mm_iconst 1 dX2_addLot_1 rfl ?_
  refine mm_bipush 12 dX2_addLot_2 rfl ?_
  refine mm_SNi (N := mX7_within) (as := [_, _, _]) dX2_addLot_4 lk_X2_77 okX7_within (by decide) rfl rfl (by decide) c_within (fun r1 J1 hq => ?_)
  obtain ⟨rfl, hJ⟩ := hq
  subst J1
  refine mm_if_eq 20 dX2_addLot_7 (by decide) (fun c_7 => ?_) (fun c_7 => ?_)
  · skip
    have n1 := if_no c_7
    refine mm_ldc dX2_addLot_20 ct_X2_81 ?_
    refine mm_iret dX2_addLot_22 rfl ?_
    first
      | exact ⟨rfl, _, rfl, e_Q_err (if_pos (fun q => n1 q.1)) hs⟩
      | exact ⟨rfl, _, rfl, e_Q_err (if_pos (fun q => n2 q.2)) hs⟩
  · skip
    have y1 := if_yes c_7
    refine mm_iload_n dX2_addLot_10 rfl rfl ?_
    refine mm_iconst 0 dX2_addLot_11 rfl ?_
    refine mm_bipush 50 dX2_addLot_12 rfl ?_
    refine mm_SNi (N := mX7_within) (as := [_, _, _]) dX2_addLot_14 lk_X2_77 okX7_within (by decide) rfl rfl (by decide) c_within (fun r1 J1 hq => ?_)
    obtain ⟨rfl, hJ⟩ := hq
    subst J1
    refine mm_if_ne 23 dX2_addLot_17 (by decide) (fun c_17 => ?_) (fun c_17 => ?_)
    · skip
      have y2 := if_yes c_17
      obtain ⟨B, hB1, hB12, rfl, hBc⟩ := int_p (n := 12) rfl (by omega) y1
      obtain ⟨R, hR50, rfl, hRc⟩ := int_n (n := 50) rfl (by omega) y2
      refine mm_aload_n dX2_addLot_23 rfl rfl ?_
      refine mm_getI dX2_addLot_24 fl_X2_55 rfl (by assumption) ?_
      refine mm_tope (y := nI L) h4n ?_
      refine mm_bipush 6 dX2_addLot_27 rfl ?_
      refine mm_icmp_lt 35 dX2_addLot_29 (by decide) (fun c_29 => ?_) (fun c_29 => ?_)
      · skip
        have hlt : L < 6 := (nI_ltI (b := 6) (by omega) (by omega)).mp c_29
        have hne : ¬ s 0 = 6 := fun q => by
          rw [h0.1] at q
          have := (nI_eq (a := L) (b := 6) (by omega) (by omega)).mp q
          omega
        have hsp : sp_lot s (nI B) (nI R) = (nI L, upd (fun j => if 17 + 20 * L ≤ j ∧ j < 17 + 20 * L + B then 2250 else upd (upd s (9 + 20 * L) (nI B)) (10 + 20 * L) (nI R) j) 0 (nI (L + 1))) := by
          unfold sp_lot
          rw [if_neg (fun q => q ⟨y1, y2⟩), if_neg hne, hL, hBc, h0.1]
        obtain ⟨lk, lp0, lp1, lp2, lp3, lbar, lk3, lk4, lk5⟩ := (elots L hlt).2
        have bk := lbar.1
        refine mm_aload_n dX2_addLot_35 rfl rfl ?_
        refine mm_dup dX2_addLot_36 rfl ?_
        refine mm_getI dX2_addLot_37 fl_X2_55 rfl (by assumption) ?_
        refine mm_tope (y := nI L) h4n ?_
        refine mm_iconst 1 dX2_addLot_40 rfl ?_
        refine mm_iadd dX2_addLot_41 ?_
        refine mm_tope (y := nI (L + 1)) (nI_1 _) ?_
        refine mm_putI dX2_addLot_42 fl_X2_55 rfl rfl (by assumption) ?_
        refine mm_aload_n dX2_addLot_45 rfl rfl ?_
        refine mm_aload_n dX2_addLot_46 rfl rfl ?_
        refine mm_getI dX2_addLot_47 fl_X2_55 rfl (by assumption) ?_
        refine mm_tope (y := nI (L + 1)) mm_wr_s ?_
        refine mm_iconst 1 dX2_addLot_50 rfl ?_
        refine mm_isub dX2_addLot_51 ?_
        refine mm_tope (y := nI L) (pk_sub (b := 1) (by omega)) ?_
        refine mm_Vr (N := mX2_lotAt) (ci := 2) (as := [_]) dX2_addLot_52 lk_X2_83 okX2_lotAt (by decide) rfl (by decide) rfl (by assumption) rfl (by decide) (c_lotAtN (n := L + 1) hE0 mm_wr_s (by omega) (by omega)) (fun r1 J1 hq => ?_)
        obtain ⟨rfl, hJ⟩ := hq
        subst J1
        refine mm_astore_n dX2_addLot_55 rfl (Nat.le_of_ble_eq_true rfl) ?_
        refine mm_aload_n dX2_addLot_56 rfl rfl ?_
        refine mm_ifnull dX2_addLot_57 ?_
        refine mm_aload_n dX2_addLot_60 rfl rfl ?_
        refine mm_getR dX2_addLot_61 fl_X2_87 rfl (by assumption) (by assumption) ?_
        refine mm_iload_n dX2_addLot_64 rfl rfl ?_
        refine mm_iload_n dX2_addLot_65 rfl rfl ?_
        refine mm_Vv (N := mX0_fill) (ci := 0) (as := [_, _]) dX2_addLot_66 lk_X2_90 okX0_fill (by decide) rfl (by decide) rfl (by assumption) rfl (by decide) (c_fill lbar hB12) (fun J2 hq => ?_)
        subst hq
        have hF : ∀ c, c ≠ e + 7 + 6 * L + 1 → c ≠ e + 7 + 6 * L + 1 + 1 → mm_row (mm_wr (mm_wr (mm_wr I e 4 (nI (L + 1))) (e + 7 + 6 * L + 1) 1 (nI B)) (e + 7 + 6 * L + 1) 2 (nI R)) (e + 7 + 6 * L + 1 + 1) 12 (fun i => if i < B then 2250 else 0) c = mm_wr I e 4 (nI (L + 1)) c := fun c q1 q2 => by rw [mm_row_n q2, mm_wr_row q1, mm_wr_row q1]
        have hV : wv_at (mm_row (mm_wr (mm_wr (mm_wr I e 4 (nI (L + 1))) (e + 7 + 6 * L + 1) 1 (nI B)) (e + 7 + 6 * L + 1) 2 (nI R)) (e + 7 + 6 * L + 1 + 1) 12 (fun i => if i < B then 2250 else 0)) (e + 7 + 6 * L + 1) B R (fun k => if k < B then 2250 else 0) := by
          refine ⟨?_, ?_, fun k hk => ?_⟩
          · rw [mm_row_n (by omega), mm_wr_k (by omega), mm_wr_s]
          · rw [mm_row_n (by omega), mm_wr_s]
          · rw [mm_row_in hk]
            show (if k < B then 2250 else 0) = nI (if k < B then 2250 else 0)
            split <;> rfl
        generalize mm_row (mm_wr (mm_wr (mm_wr I e 4 (nI (L + 1))) (e + 7 + 6 * L + 1) 1 (nI B)) (e + 7 + 6 * L + 1) 2 (nI R)) (e + 7 + 6 * L + 1 + 1) 12 (fun i => if i < B then 2250 else 0) = J3 at hF hV ⊢
        have J4 : J3 e 4 = nI (L + 1) := by rw [hF e (by omega) (by omega)]; exact mm_wr_s
        refine mm_aload_n dX2_addLot_69 rfl rfl ?_
        refine mm_getI dX2_addLot_70 fl_X2_55 rfl (by assumption) ?_
        refine mm_tope (y := nI (L + 1)) J4 ?_
        refine mm_iconst 1 dX2_addLot_73 rfl ?_
        refine mm_isub dX2_addLot_74 ?_
        refine mm_tope (y := nI L) (pk_sub (b := 1) (by omega)) ?_
        refine mm_iret dX2_addLot_75 rfl ?_
        refine ⟨rfl, _, rfl, ?_⟩
        unfold e_Q
        rw [hsp]
        exact ⟨rfl, est_new hi hs hL hlt hB12 hR50 (fun c q1 q2 q3 => by rw [hF c q2 q3]; exact mm_wr_row q1) J4 (fun k hk => by rw [hF e (by omega) (by omega)]; exact mm_wr_k hk) hV, fun c hc => by rw [hF c (by omega) (by omega)]; exact mm_wr_row (by omega)⟩
      · skip
        have hge : 6 ≤ L := Nat.not_lt.mp fun q => c_29 (nI_lt (b := 6) q (by omega))
        have he6 : s 0 = 6 := by rw [h0.1, show L = 6 by omega]; rfl
        refine mm_ldc dX2_addLot_32 ct_X2_82 ?_
        refine mm_iret dX2_addLot_34 rfl ?_
        exact ⟨rfl, _, rfl, e_Q_err (by unfold sp_lot; rw [if_neg (fun q => q ⟨y1, y2⟩), if_pos he6]) hs⟩
    · skip
      have n2 := if_no c_17
      refine mm_ldc dX2_addLot_20 ct_X2_81 ?_
      refine mm_iret dX2_addLot_22 rfl ?_
      first
        | exact ⟨rfl, _, rfl, e_Q_err (if_pos (fun q => n1 q.1)) hs⟩
        | exact ⟨rfl, _, rfl, e_Q_err (if_pos (fun q => n2 q.2)) hs⟩
