/-! THE CLASS: bottle -/
/-- a lot goes into bottles: its places then -/
def filS (s : Nat → Int32) (L c : Nat) : Nat → Int32 := upd (upd (upd (upd s (9 + 20 * L) 0) (13 + 20 * L) 1) (14 + 20 * L) (nI c)) (15 + 20 * L) (nI c)
theorem filS_at {s : Nat → Int32} {L c j : Nat} (h : j ≠ 9 + 20 * L ∧ j ≠ 13 + 20 * L ∧ j ≠ 14 + 20 * L ∧ j ≠ 15 + 20 * L) : filS s L c j = s j := by
  unfold filS upd
  rw [if_neg h.2.2.2, if_neg h.2.2.1, if_neg h.2.1, if_neg h.1]
theorem filS_9 {s : Nat → Int32} {L c : Nat} : filS s L c (9 + 20 * L) = nI 0 := by
  unfold filS upd
  rw [if_neg (by omega), if_neg (by omega), if_neg (by omega), if_pos rfl]
  rfl
theorem filS_13 {s : Nat → Int32} {L c : Nat} : filS s L c (13 + 20 * L) = 1 := by
  unfold filS upd
  rw [if_neg (by omega), if_neg (by omega), if_pos rfl]
theorem filS_15 {s : Nat → Int32} {L c : Nat} : filS s L c (15 + 20 * L) = nI c := if_pos rfl
theorem filS_cuts {s : Nat → Int32} {L c al n : Nat} (hL : L < 6) : sp_cuts (filS s L c) L c al n = filS (sp_cuts s L c al n) L c := by
  unfold filS
  rw [cuts_upd (by omega), cuts_upd (by omega), cuts_upd (by omega), cuts_upd (by omega)]
theorem filS_EA {I J : mm_I} {e L c : Nat} {s : Nat → Int32} (h : EA I e s) (hL : L < 6) (hr : sv s (10 + 20 * L) ≤ 50) (hw : wv_at J (e + 7 + 6 * L + 1) 0 (sv s (10 + 20 * L)) (fun _ => 0)) (j4 : J (e + 7 + 6 * L) 4 = 1) (j5 : J (e + 7 + 6 * L) 5 = nI c) (j6 : J (e + 7 + 6 * L) 6 = I (e + 7 + 6 * L) 6) (j7 : J (e + 7 + 6 * L) 7 = I (e + 7 + 6 * L) 7) (hJ : ∀ q, q ≠ e + 7 + 6 * L → q ≠ e + 7 + 6 * L + 1 → q ≠ e + 7 + 6 * L + 1 + 1 → J q = I q) : EA J e (filS s L c) := by
  obtain ⟨g1, g2, g3, g4, g5, g6⟩ := h.1.2.2.2.2 L hL
  have v9 : sv (filS s L c) (9 + 20 * L) = 0 := sv_of filS_9 (by omega)
  have v10 : sv (filS s L c) (10 + 20 * L) = sv s (10 + 20 * L) := sv_congr (filS_at (by omega))
  have vw : sw (filS s L c) L = fun _ => 0 := by
    funext k
    exact if_neg (by rw [v9]; omega)
  refine ⟨est_lotn h.2 h.1 hL (fun q hq => hJ q (by omega) (by omega) (by omega)) ⟨by rw [v9, v10, vw]; exact hw, fun b hb => ?_, j4.trans filS_13.symm, j5.trans filS_15.symm, ?_, ?_⟩ (fun j h1 h2 h3 => filS_at (by omega)) (fun l h1 h2 b h3 f h4 => filS_at (by omega)), fun l hl => ?_⟩
  · rw [hJ _ (by omega) (by omega) (by omega), hJ _ (by omega) (by omega) (by omega), hJ _ (by omega) (by omega) (by omega), filS_at (by omega), filS_at (by omega), filS_at (by omega)]
    exact g2 b hb
  · rw [j6, filS_at (by omega)]; exact g5
  · rw [j7, filS_at (by omega)]; exact g6
  · by_cases e1 : l = L
    · subst e1; rw [v9]; omega
    · rw [show sv (filS s L c) (9 + 20 * l) = sv s (9 + 20 * l) from sv_congr (filS_at (by omega))]; exact h.2 l hl

set_option maxRecDepth 100000 in
set_option maxHeartbeats 4000000 in
theorem c_bottleLot {S : mm_S} {I : mm_I} {e : Nat} {s : Nat → Int32} {l : Int32} (hE : mm_est S e) (hs : est_at I e s) (hi : Inv s) : mm_ci mX2_bottleLot [.ref e, .int l] S I (e_Q e I (sp_bottle s l)) := by
  have hE0 := hE
  obtain ⟨ek, ep0, ep1, ep2, ep3, ek1, ek2, ebk, ebar, elots⟩ := hE
  refine mm_ci.of okX2_bottleLot rfl (Nat.le_of_ble_eq_true rfl) (lv := [(0, .ref e), (1, .int l)]) rfl ?_
  refine mm_aload_n dX2_bottleLot_0 rfl rfl ?_
  refine mm_iload_n dX2_bottleLot_1 rfl rfl ?_
  refine mm_Vr (N := mX2_lotAt) (ci := 2) (as := [_]) dX2_bottleLot_2 lk_X2_83 okX2_lotAt (by decide) rfl (by decide) rfl (by assumption) rfl (by decide) (c_lotAt hE0 hs hi) (fun r1 J1 hq => ?_)
  obtain ⟨rfl, hJ⟩ := hq
  subst J1
  by_cases y1 : 0 ≤ l ∧ l < s 0
  · rw [if_pos y1]
    obtain ⟨L, hLn, hL6, rfl, hLc⟩ := inv_l hi y1
    rw [hLc]
    obtain ⟨lk, lp0, lp1, lp2, lp3, lbar, lk3, lk4, lk5⟩ := (elots L hL6).2
    have hL := (elots L hL6).2
    have hlat := hs.2.2.2.2 L hL6
    have hok := (hi.2.1 L hL6).2.1
    have hlt := hi.2.1 L hL6
    have h13 := inv_f hlt 4 (by omega)
    rw [show 9 + 4 + 20 * L = 13 + 20 * L by omega] at h13
    have bk := lbar.1
    refine mm_astore_n dX2_bottleLot_5 rfl (Nat.le_of_ble_eq_true rfl) ?_
    refine mm_aload_n dX2_bottleLot_6 rfl rfl ?_
    refine mm_ifnonnull 13 dX2_bottleLot_7 (by decide) ?_
    refine mm_aload_n dX2_bottleLot_13 rfl rfl ?_
    refine mm_getI dX2_bottleLot_14 fl_X2_126 rfl (by assumption) ?_
    refine mm_tope (y := s (13 + 20 * L)) hlat.2.2.1 ?_
    refine mm_if_eq 23 dX2_bottleLot_17 (by decide) (fun c_17 => ?_) (fun c_17 => ?_)
    · skip
      have hop : ¬ ¬ sv s (13 + 20 * L) = 0 := fun q => q (sv_of (n := 0) c_17 (by omega))
      obtain ⟨c, hcd⟩ : ∃ c, c = (ws_sum (sw s L) (sv s (9 + 20 * L)) / 90) := ⟨_, rfl⟩
      have hc300 : c ≤ 300 := by have := hlt.2.2.2.1.2; omega
      have hal : hsum s L ≤ 300 := hlt.2.2.2.2.2.2.1.1
      have hn6 := hi.1.2.1.2
      have hsp : sp_bottle s (nI L) = (nI (cutK s L c (hsum s L) (sv s 1)), upd (filS (sp_cuts s L c (hsum s L) (sv s 1)) L c) 5 (s 5 + nI (cutK s L c (hsum s L) (sv s 1)))) := by
        unfold sp_bottle
        rw [if_neg (fun q => q y1), hLc, if_neg hop, ← hcd]
        rfl
      refine mm_aload_n dX2_bottleLot_23 rfl rfl ?_
      refine mm_Vv (N := mX4_fillBottles) (ci := 4) (as := []) dX2_bottleLot_24 lk_X2_130 okX4_fillBottles (by decide) rfl (by decide) rfl (by assumption) rfl (by decide) (c_fillBottles hL hlat.1 hok) (fun J1 hq => ?_)
      obtain ⟨k1, k2, k3, k4, k5, k6⟩ := hq
      rw [← hcd] at k3
      have g0 := filS_EA (c := c) (EA.of hs hi) hL6 hok.2.1 k1 k2 k3 k4 k5 k6
      have f0 : e_fr e I J1 := fun d hd => k6 d (by omega) (by omega) (by omega)
      have hsumJ : is_sum (J1 (e + 7 + 6 * L + 3)) 6 = nI (hsum s L) := is_sum_nI 6 (fun b hb => by rw [k6 _ (by omega) (by omega) (by omega), (hlat.2.1 b hb).1]; exact (inv_h hi hL6 hb).1)
      refine mm_aload_n dX2_bottleLot_27 rfl rfl ?_
      refine mm_Vi (N := mX4_allHeld) (ci := 4) (as := []) dX2_bottleLot_28 lk_X2_133 okX4_allHeld (by decide) rfl (by decide) rfl (by assumption) rfl (by decide) (c_allHeld hL) (fun r2 J2 hq => ?_)
      obtain ⟨rfl, hJ⟩ := hq
      subst J2
      rw [hsumJ]
      refine mm_istore_n dX2_bottleLot_31 rfl (Nat.le_of_ble_eq_true rfl) ?_
      refine mm_iconst 0 dX2_bottleLot_32 rfl ?_
      refine mm_istore dX2_bottleLot_33 (Nat.le_of_ble_eq_true rfl) ?_
      refine mm_iconst 0 dX2_bottleLot_35 rfl ?_
      refine mm_istore dX2_bottleLot_36 (Nat.le_of_ble_eq_true rfl) ?_
      have loop : ∀ (t b : Nat) (I1 : mm_I), b + t = sv s 1 → EA I1 e (sp_cuts (filS s L c) L c (hsum s L) b) → e_fr e I I1 → mm_Gi mX2_bottleLot (e_Q e I (sp_bottle s (nI L))) 38 [(5, .int (nI b)), (4, .int (nI (cutK s L c (hsum s L) b))), (3, .int (nI (hsum s L))), (2, .ref (e + 7 + 6 * L)), (0, .ref e), (1, .int (nI L))] [] S S I1 := by
        intro t
        induction t with
        | zero =>
          intro b I1 hbt g1 g2
          have g1s : sp_cuts (filS s L c) L c (hsum s L) b 1 = s 1 := (sp_cuts_at hL6 b (by omega) (by omega)).trans (filS_at (by omega))
          have g5 : I1 e 5 = nI (sv s 1) := g1.1.1.2.1.trans (g1s.trans hi.1.2.1.1)
          have g11 : I1 e 11 = s 5 := g1.1.1.2.2.2.2.2.2.2.trans ((sp_cuts_at hL6 b (by omega) (by omega)).trans (filS_at (by omega)))
          refine mm_iload dX2_bottleLot_38 rfl ?_
          refine mm_aload_n dX2_bottleLot_40 rfl rfl ?_
          refine mm_getI dX2_bottleLot_41 fl_X2_58 rfl (by assumption) ?_
          refine mm_tope (y := nI (sv s 1)) g5 ?_
          refine mm_icmp_ge 67 dX2_bottleLot_44 (by decide) (fun c_44 => ?_) (fun c_44 => absurd (nI_le (by omega) (by omega)) c_44)
          refine mm_aload_n dX2_bottleLot_67 rfl rfl ?_
          refine mm_dup dX2_bottleLot_68 rfl ?_
          refine mm_getI dX2_bottleLot_69 fl_X2_70 rfl (by assumption) ?_
          refine mm_tope (y := s 5) g11 ?_
          refine mm_iload dX2_bottleLot_72 rfl ?_
          refine mm_iadd dX2_bottleLot_74 ?_
          refine mm_putI dX2_bottleLot_75 fl_X2_70 rfl rfl (by assumption) ?_
          refine mm_iload dX2_bottleLot_78 rfl ?_
          refine mm_iret dX2_bottleLot_80 rfl ?_
          have hbN : b = sv s 1 := by omega
          subst hbN
          refine ⟨rfl, _, rfl, ?_⟩
          unfold e_Q
          rw [hsp]
          have q1 := g1.int 11 5 (z := s 5 + nI (cutK s L c (hsum s L) (sv s 1))) (by omega)
          rw [filS_cuts hL6] at q1
          exact ⟨rfl, q1.1, g2.w (Nat.le_refl _) (by omega)⟩
        | succ t ih =>
          intro b I1 hbt g1 g2
          have g1s : sp_cuts (filS s L c) L c (hsum s L) b 1 = s 1 := (sp_cuts_at hL6 b (by omega) (by omega)).trans (filS_at (by omega))
          have g5 : I1 e 5 = nI (sv s 1) := g1.1.1.2.1.trans (g1s.trans hi.1.2.1.1)
          have hh := inv_h (b := b) hi hL6 (by omega)
          have hp := ((hlt.2.2.2.2.2.2.2) b (by omega)).2
          have eh : sp_cuts (filS s L c) L c (hsum s L) b (136 + 18 * b + 3 * L) = nI (sv s (136 + 18 * b + 3 * L)) := (sp_cuts_at hL6 b (by omega) (by omega)).trans ((filS_at (by omega)).trans hh.1)
          have ep : sp_cuts (filS s L c) L c (hsum s L) b (137 + 18 * b + 3 * L) = nI (sv s (137 + 18 * b + 3 * L)) := (sp_cuts_at hL6 b (by omega) (by omega)).trans ((filS_at (by omega)).trans hh.2.2.1)
          have g15 : sp_cuts (filS s L c) L c (hsum s L) b (15 + 20 * L) = nI c := (sp_cuts_at hL6 b (by omega) (by omega)).trans filS_15
          have v6 : sp_cuts (filS s L c) L c (hsum s L) b 6 = nI (sv (sp_cuts (filS s L c) L c (hsum s L) b) 6) ∧ sv (sp_cuts (filS s L c) L c (hsum s L) b) 6 ≤ 12 := sp_cuts_6 hL6 (by rw [show sv (filS s L c) 6 = sv s 6 from sv_congr (filS_at (by omega)), filS_at (by omega)]; exact hi.1.2.2.2.1) b (by omega)
          refine mm_iload dX2_bottleLot_38 rfl ?_
          refine mm_aload_n dX2_bottleLot_40 rfl rfl ?_
          refine mm_getI dX2_bottleLot_41 fl_X2_58 rfl (by assumption) ?_
          refine mm_tope (y := nI (sv s 1)) g5 ?_
          refine mm_icmp_ge 67 dX2_bottleLot_44 (by decide) (fun c_44 => absurd c_44 (nI_ge (by omega) (by omega))) (fun c_44 => ?_)
          refine mm_iload dX2_bottleLot_47 rfl ?_
          refine mm_aload_n dX2_bottleLot_49 rfl rfl ?_
          refine mm_iload_n dX2_bottleLot_50 rfl rfl ?_
          refine mm_aload_n dX2_bottleLot_51 rfl rfl ?_
          refine mm_iload dX2_bottleLot_52 rfl ?_
          refine mm_iload_n dX2_bottleLot_54 rfl rfl ?_
          refine mm_Vi (N := mX2_cutFutures) (ci := 2) (as := [_, _, _, _]) dX2_bottleLot_55 lk_X2_136 okX2_cutFutures (by decide) rfl (by decide) rfl (by assumption) rfl (by first | decide | (simp [Value.category])) (c_cutFutures (L := L) (c := c) (s := s) hE0 g1 g1s hi hL6 rfl (by omega) eh ep hh.2.1 hp g15 hc300 hal v6.1 v6.2) (fun r2 J2 hq => ?_)
          obtain ⟨rfl, g3, f3⟩ := hq
          refine mm_iadd dX2_bottleLot_58 ?_
          refine mm_tope (y := nI (cutK s L c (hsum s L) (b + 1))) (nI_add _ _) ?_
          refine mm_istore dX2_bottleLot_59 (Nat.le_of_ble_eq_true rfl) ?_
          refine mm_iinc 1 dX2_bottleLot_61 rfl rfl (Nat.le_of_ble_eq_true rfl) ?_
          rw [nI_1]
          refine mm_goto 38 dX2_bottleLot_64 (by decide) ?_
          exact mm_G.at (ih (b + 1) _ (by omega) g3 (g2.tr f3)) (mm_s1 rfl (mm_s1 rfl (mm_s1 rfl (mm_s1 rfl (mm_s1 rfl (mm_s1 rfl mm_s0))))))
      exact mm_G.at (loop (sv s 1) 0 J1 (by omega) g0 f0) (mm_s1 rfl (mm_s1 rfl (mm_s1 rfl (mm_s1 rfl (mm_s1 rfl (mm_s1 rfl mm_s0))))))
    · skip
      have hop : ¬ sv s (13 + 20 * L) = 0 := fun q => c_17 (by rw [h13, q]; rfl)
      refine mm_ldc dX2_bottleLot_20 ct_X2_98 ?_
      refine mm_iret dX2_bottleLot_22 rfl ?_
      exact ⟨rfl, _, rfl, e_Q_err (by unfold sp_bottle; rw [if_neg (fun q => q y1), hLc, if_pos hop]) hs⟩
  · rw [if_neg y1]
    refine mm_astoreN_n dX2_bottleLot_5 rfl (Nat.le_of_ble_eq_true rfl) ?_
    refine mm_aloadN_n dX2_bottleLot_6 rfl rfl ?_
    refine mm_ifnonnullN dX2_bottleLot_7 ?_
    refine mm_ldc dX2_bottleLot_10 ct_X2_81 ?_
    refine mm_iret dX2_bottleLot_12 rfl ?_
    exact ⟨rfl, _, rfl, e_Q_err (if_pos y1) hs⟩
  
