/-! THE CLASS: an Estate's lot is tasted; the settings -/

set_option maxRecDepth 100000 in
set_option maxHeartbeats 4000000 in
theorem c_tasteLot {S : mm_S} {I : mm_I} {e : Nat} {s : Nat → Int32} {l c : Int32} (hE : mm_est S e) (hs : est_at I e s) (hi : Inv s) : mm_ci mX2_tasteLot [.ref e, .int l, .int c] S I (e_Q e I (sp_taste s l c)) := by
  have hE0 := hE
  obtain ⟨ek, ep0, ep1, ep2, ep3, ek1, ek2, ebk, ebar, elots⟩ := hE
  refine mm_ci.of okX2_tasteLot rfl (Nat.le_of_ble_eq_true rfl) (lv := [(0, .ref e), (1, .int l), (2, .int c)]) rfl ?_
  refine mm_aload_n dX2_tasteLot_0 rfl rfl ?_
  refine mm_iload_n dX2_tasteLot_1 rfl rfl ?_
  refine mm_Vr (N := mX2_lotAt) (ci := 2) (as := [_]) dX2_tasteLot_2 lk_X2_83 okX2_lotAt (by decide) rfl (by decide) rfl (by assumption) rfl (by decide) (c_lotAt hE0 hs hi) (fun r1 J1 hq => ?_)
  obtain ⟨rfl, hJ⟩ := hq
  subst J1
  by_cases y1 : 0 ≤ l ∧ l < s 0
  · rw [if_pos y1]
    obtain ⟨L, hLn, hL6, rfl, hLc⟩ := inv_l hi y1
    rw [hLc]
    obtain ⟨lk, lp0, lp1, lp2, lp3, lbar, lk3, lk4, lk5⟩ := (elots L hL6).2
    have hL := (elots L hL6).2
    have hlat := hs.2.2.2.2 L hL6
    have hok := (hi.2.1 L hL6).2.1
    have hlt := hi.2.1 L hL6
    have hlsum := hlt.2.2.2.1
    have bk := lbar.1
    refine mm_astore_n dX2_tasteLot_5 rfl (Nat.le_of_ble_eq_true rfl) ?_
    refine mm_aload_n dX2_tasteLot_6 rfl rfl ?_
    refine mm_ifnull dX2_tasteLot_7 ?_
    refine mm_iload_n dX2_tasteLot_10 rfl rfl ?_
    refine mm_iconst 0 dX2_tasteLot_11 rfl ?_
    refine mm_bipush 100 dX2_tasteLot_12 rfl ?_
    refine mm_SNi (N := mX7_within) (as := [_, _, _]) dX2_tasteLot_14 lk_X2_77 okX7_within (by decide) rfl rfl (by decide) c_within (fun r2 J2 hq => ?_)
    obtain ⟨rfl, hJ⟩ := hq
    subst J2
    refine mm_if_ne 23 dX2_tasteLot_17 (by decide) (fun c_17 => ?_) (fun c_17 => ?_)
    · skip
      have y2 := if_yes c_17
      obtain ⟨C, hC, rfl, hCc⟩ := int_n (n := 100) rfl (by omega) y2
      have hsp : sp_taste s (nI L) (nI C) = match w_find (fun k => decide (10 ≤ sw s L k)) 0 (sv s (9 + 20 * L)) with
          | none => (-2000000002, s)
          | some b => (nI (w_quote (sv s (11 + 20 * L) + C) (sv s (12 + 20 * L) + 1)), upd (upd (w_lay s L (w_sipN (sv s (9 + 20 * L)) (sw s L) b) (fun k => nI ((w_sip (sw s L) b) k))) (11 + 20 * L) (nI (sv s (11 + 20 * L) + C))) (12 + 20 * L) (nI (sv s (12 + 20 * L) + 1))) := by
        unfold sp_taste
        rw [if_neg (fun q => q ⟨y1, y2⟩), hLc, hCc]
        rfl
      refine mm_aload_n dX2_tasteLot_23 rfl rfl ?_
      refine mm_getR dX2_tasteLot_24 fl_X2_87 rfl (by assumption) (by assumption) ?_
      refine mm_Vi (N := mX0_barrelForTasting) (ci := 0) (as := []) dX2_tasteLot_27 lk_X2_94 okX0_barrelForTasting (by decide) rfl (by decide) rfl (by assumption) rfl (by decide) (c_barrelForTasting lbar hlat.1 hok) (fun r3 J2 hq => ?_)
      obtain ⟨rfl, hJ⟩ := hq
      subst J2
      cases hnd : w_find (fun k => decide (10 ≤ sw s L k)) 0 (sv s (9 + 20 * L)) with
      | none =>
        rw [hnd] at hsp
        refine mm_istore dX2_tasteLot_30 (Nat.le_of_ble_eq_true rfl) ?_
        refine mm_iload dX2_tasteLot_32 rfl ?_
        refine mm_if_ge 40 dX2_tasteLot_34 (by decide) (fun c_34 => absurd c_34 (by decide)) (fun c_34 => ?_)
        refine mm_ldc dX2_tasteLot_37 ct_X2_98 ?_
        refine mm_iret dX2_tasteLot_39 rfl ?_
        exact ⟨rfl, _, rfl, e_Q_err hsp hs⟩
      | some b =>
        rw [hnd] at hsp
        obtain ⟨q1, q2, q3, q4⟩ := w_find_some hnd
        have hbn : b < sv s (9 + 20 * L) := by omega
        have hw10 : 10 ≤ sw s L b := of_decide_eq_true q3
        have hn12 := hok.1
        have so := sip_ok hok hbn hw10
        refine mm_istore dX2_tasteLot_30 (Nat.le_of_ble_eq_true rfl) ?_
        refine mm_iload dX2_tasteLot_32 rfl ?_
        refine mm_if_ge 40 dX2_tasteLot_34 (by decide) (fun c_34 => ?_) (fun c_34 => absurd (nI_pos' (by omega)) c_34)
        refine mm_aload_n dX2_tasteLot_40 rfl rfl ?_
        refine mm_getR dX2_tasteLot_41 fl_X2_87 rfl (by assumption) (by assumption) ?_
        refine mm_iload dX2_tasteLot_44 rfl ?_
        refine mm_Vv (N := mX0_takeSip) (ci := 0) (as := [_]) dX2_tasteLot_46 lk_X2_99 okX0_takeSip (by decide) rfl (by decide) rfl (by assumption) rfl (by decide) (c_takeSip lbar hlat.1 hok hbn hw10) (fun J3 hq => ?_)
        obtain ⟨k1, k3⟩ := hq
        have ka := k3 (e + 7 + 6 * L) (by omega) (by omega)
        have a6 : J3 (e + 7 + 6 * L) 6 = nI (sv s (11 + 20 * L)) := by rw [ka]; exact hlat.2.2.2.2.1.trans (inv_f hlt 2 (by omega))
        have a7 : J3 (e + 7 + 6 * L) 7 = nI (sv s (12 + 20 * L)) := by rw [ka]; exact hlat.2.2.2.2.2.trans (inv_f hlt 3 (by omega))
        refine mm_aload_n dX2_tasteLot_49 rfl rfl ?_
        refine mm_dup dX2_tasteLot_50 rfl ?_
        refine mm_getI dX2_tasteLot_51 fl_X2_103 rfl (by assumption) ?_
        refine mm_tope (y := nI (sv s (11 + 20 * L))) a6 ?_
        refine mm_iload_n dX2_tasteLot_54 rfl rfl ?_
        refine mm_iadd dX2_tasteLot_55 ?_
        refine mm_tope (y := nI (sv s (11 + 20 * L) + C)) (nI_add _ _) ?_
        refine mm_putI dX2_tasteLot_56 fl_X2_103 rfl rfl (by assumption) ?_
        refine mm_aload_n dX2_tasteLot_59 rfl rfl ?_
        refine mm_dup dX2_tasteLot_60 rfl ?_
        refine mm_getI dX2_tasteLot_61 fl_X2_106 rfl (by assumption) ?_
        refine mm_tope (y := nI (sv s (12 + 20 * L))) ((mm_wr_k (by omega)).trans a7) ?_
        refine mm_iconst 1 dX2_tasteLot_64 rfl ?_
        refine mm_iadd dX2_tasteLot_65 ?_
        refine mm_tope (y := nI (sv s (12 + 20 * L) + 1)) (nI_1 _) ?_
        refine mm_putI dX2_tasteLot_66 fl_X2_106 rfl rfl (by assumption) ?_
        refine mm_aload_n dX2_tasteLot_69 rfl rfl ?_
        refine mm_Vi (N := mX4_quote) (ci := 4) (as := []) dX2_tasteLot_70 lk_X2_109 okX4_quote (by decide) rfl (by decide) rfl (by assumption) rfl (by decide) (c_quote (sc := sv s (11 + 20 * L) + C) (t := sv s (12 + 20 * L) + 1) hL ((mm_wr_k (by omega)).trans mm_wr_s) mm_wr_s (by omega) (by omega)) (fun r5 J5 hq => ?_)
        obtain ⟨rfl, hJ⟩ := hq
        subst J5
        refine mm_iret dX2_tasteLot_73 rfl ?_
        refine ⟨rfl, _, rfl, ?_⟩
        unfold e_Q
        rw [hsp]
        have hr : ∀ c, c ≠ e + 7 + 6 * L → mm_wr (mm_wr J3 (e + 7 + 6 * L) 6 (nI (sv s (11 + 20 * L) + C))) (e + 7 + 6 * L) 7 (nI (sv s (12 + 20 * L) + 1)) c = J3 c := fun c hc => by rw [mm_wr_row hc, mm_wr_row hc]
        refine ⟨rfl, est_wine (N := (w_sipN (sv s (9 + 20 * L)) (sw s L) b)) (w' := (w_sip (sw s L) b)) hi hs hL6 (fun c h1 h2 h3 => by rw [hr c h1]; exact k3 c h2 h3) ?_ so.1 (by rw [mm_wr_k (by omega), mm_wr_k (by omega), ka]) (by rw [mm_wr_k (by omega), mm_wr_k (by omega), ka]) ?_ ?_ (fun j h1 h2 h3 h4 => ?_) ?_ (fun k hk => ?_), fun c hc => by rw [hr c (by omega)]; exact k3 c (by omega) (by omega)⟩
        · unfold wv_at
          rw [hr _ (by omega), hr _ (by omega)]
          exact k1
        · rw [mm_wr_k (by omega), mm_wr_s]
          exact ((if_neg (by omega)).trans (if_pos rfl)).symm
        · rw [mm_wr_s]
          exact (if_pos rfl).symm
        · show upd (upd _ _ _) _ _ j = s j
          unfold upd
          rw [if_neg h3, if_neg h2, w_lay_at h1 (by have := so.1.1; omega)]
        · show upd (upd _ _ _) _ _ _ = _
          unfold upd
          rw [if_neg (by omega), if_neg (by omega), w_lay_9]
        · show upd (upd _ _ _) _ _ _ = _
          unfold upd
          rw [if_neg (by omega), if_neg (by omega), w_lay_k hk]
      
    · skip
      have n2 := if_no c_17
      refine mm_ldc dX2_tasteLot_20 ct_X2_81 ?_
      refine mm_iret dX2_tasteLot_22 rfl ?_
      exact ⟨rfl, _, rfl, e_Q_err (if_pos (fun q => n2 q.2)) hs⟩
  · rw [if_neg y1]
    refine mm_astoreN_n dX2_tasteLot_5 rfl (Nat.le_of_ble_eq_true rfl) ?_
    refine mm_aloadN_n dX2_tasteLot_6 rfl rfl ?_
    refine mm_ifnullN 20 dX2_tasteLot_7 (by decide) ?_
    refine mm_ldc dX2_tasteLot_20 ct_X2_81 ?_
    refine mm_iret dX2_tasteLot_22 rfl ?_
    exact ⟨rfl, _, rfl, e_Q_err (if_pos (fun q => y1 q.1)) hs⟩
  
