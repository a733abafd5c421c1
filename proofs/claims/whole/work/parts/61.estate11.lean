/-! THE CLASS: sell, trade, redeem -/
theorem c_bookE {S : mm_S} {I : mm_I} {e : Nat} {u : Nat → Int32} {k l b c m f : Int32} (hE : mm_est S e) (hu : EA I e u) (h6 : u 6 = nI (sv u 6) ∧ sv u 6 ≤ 12) : mm_cv mX1_write [.ref (e + 3), .int k, .int l, .int b, .int c, .int m, .int f] S I (fun J => EA J e (sp_enter u k l b c m f) ∧ e_fr e I J) := by
  obtain ⟨ek, ep0, ep1, ep2, ep3, ek1, ek2, ebk, ebar, elots⟩ := hE
  exact (c_write ebk (hu.1.2.2.1.trans h6.1) h6.2).to (fun J hJ => by subst hJ; exact ⟨hu.book, fun d hd => by rw [mm_wr_row (by omega), mm_row_n (by omega)]⟩)
theorem c_payE {S : mm_S} {I : mm_I} {e B : Nat} {s u : Nat → Int32} {x : Int32} (hE : mm_est S e) (hu : EA I e u) (h1 : u 1 = s 1) (hi : Inv s) (hB : B < sv s 1) : mm_cv mX2_payEstate [.ref e, .int (nI B), .int x] S I (fun J => EA J e (upd (upd u (129 + B) (u (129 + B) - x)) 135 (u 135 + x)) ∧ e_fr e I J) := by
  have hB6 : B < 6 := by have := hi.1.2.1.2; omega
  refine (c_payEstate hE (hu.1.1.2.1.trans h1) hi hB).to (fun J hJ => ?_)
  subst hJ
  rw [hu.1.2.1 B hB6, hu.1.1.2.2.1]
  exact ⟨(hu.acc B hB6).int 6 135 (by omega), (e_fr.rf.w (by omega) (by omega)).w (by omega) (by omega)⟩
theorem c_giveE {S : mm_S} {I : mm_I} {e L B : Nat} {u : Nat → Int32} {x y : Int32} (hE : mm_est S e) (hu : EA I e u) (hL : L < 6) (hB : B < 6) : mm_cv mX4_give [.ref (e + 7 + 6 * L), .int (nI B), .int x, .int y] S I (fun J => EA J e (upd (upd u (136 + 18 * B + 3 * L) (u (136 + 18 * B + 3 * L) + x)) (137 + 18 * B + 3 * L) (u (137 + 18 * B + 3 * L) + y)) ∧ e_fr e I J) := by
  obtain ⟨ek, ep0, ep1, ep2, ep3, ek1, ek2, ebk, ebar, elots⟩ := hE
  have hla := (hu.1.2.2.2.2 L hL).2.1 B hB
  refine (c_give (elots L hL).2 hB).to (fun J hJ => ?_)
  subst hJ
  rw [hla.1, hla.2.1]
  refine ⟨?_, (e_fr.rf.w (by omega) (by omega)).w (by omega) (by omega)⟩
  have q := (hu.row L B 0 (z := u (136 + 18 * B + 3 * L) + x) hL hB (by omega)).row L B 1 (z := u (137 + 18 * B + 3 * L) + y) hL hB (by omega)
  rw [show 136 + 18 * B + 3 * L + 1 = 137 + 18 * B + 3 * L by omega] at q
  exact q
theorem goes_comm {u : Nat → Int32} {L B k h p : Nat} (vh : sv u (136 + 18 * B + 3 * L) = h) (vp : sv u (137 + 18 * B + 3 * L) = p) : sp_goes u B L k = upd (upd u (136 + 18 * B + 3 * L) (nI (h - k))) (137 + 18 * B + 3 * L) (nI (p - p * k / h)) := by
  unfold sp_goes
  rw [vh, vp, upd_comm (by omega)]
theorem EA.goes {I : mm_I} {e L B k h p : Nat} {u : Nat → Int32} (hu : EA I e u) (hL : L < 6) (hB : B < 6) (vh : sv u (136 + 18 * B + 3 * L) = h) (vp : sv u (137 + 18 * B + 3 * L) = p) : EA (mm_wr (mm_wr I (e + 7 + 6 * L + 3) B (nI (h - k))) (e + 7 + 6 * L + 4) B (nI (p - p * k / h))) e (sp_goes u B L k) := by
  rw [goes_comm vh vp]
  have q := (hu.row L B 0 (z := nI (h - k)) hL hB (by omega)).row L B 1 (z := nI (p - p * k / h)) hL hB (by omega)
  rw [show 136 + 18 * B + 3 * L + 1 = 137 + 18 * B + 3 * L by omega] at q
  exact q
theorem c_takeE {S : mm_S} {I : mm_I} {e L B k : Nat} {s : Nat → Int32} (hE : mm_est S e) (hu : EA I e s) (hi : Inv s) (hL : L < 6) (hB : B < 6) (hk : k ≤ sv s (136 + 18 * B + 3 * L)) : mm_ci mX4_takeBack [.ref (e + 7 + 6 * L), .int (nI B), .int (nI k)] S I (fun _ J => EA J e (sp_goes s B L k) ∧ e_fr e I J) := by
  obtain ⟨ek, ep0, ep1, ep2, ep3, ek1, ek2, ebk, ebar, elots⟩ := hE
  have hla := (hu.1.2.2.2.2 L hL).2.1 B hB
  have hh := inv_h (b := B) hi hL hB
  refine (c_takeBack (elots L hL).2 hB (hla.1.trans hh.1) (hla.2.1.trans hh.2.2.1) hk (by omega) (by omega)).to (fun q J hJ => ?_)
  obtain ⟨-, rfl⟩ := hJ
  exact ⟨hu.goes hL hB rfl rfl, (e_fr.rf.w (by omega) (by omega)).w (by omega) (by omega)⟩
theorem c_deliverE {S : mm_S} {I : mm_I} {e L B k : Nat} {s : Nat → Int32} (hE : mm_est S e) (hu : EA I e s) (hi : Inv s) (hL : L < 6) (hB : B < 6) (hk : k ≤ sv s (136 + 18 * B + 3 * L)) : mm_cv mX4_deliver [.ref (e + 7 + 6 * L), .int (nI B), .int (nI k)] S I (fun J => EA J e (upd (sp_goes s B L k) (138 + 18 * B + 3 * L) (s (138 + 18 * B + 3 * L) + nI k)) ∧ e_fr e I J) := by
  obtain ⟨ek, ep0, ep1, ep2, ep3, ek1, ek2, ebk, ebar, elots⟩ := hE
  have hla := (hu.1.2.2.2.2 L hL).2.1 B hB
  have hh := inv_h (b := B) hi hL hB
  refine (c_deliver (elots L hL).2 hB (hla.1.trans hh.1) (hla.2.1.trans hh.2.2.1) hk (by omega) (by omega)).to (fun J hJ => ?_)
  subst hJ
  rw [hla.2.2]
  have q := (hu.goes (k := k) hL hB rfl rfl).row L B 2 (z := s (138 + 18 * B + 3 * L) + nI k) hL hB (by omega)
  rw [show 136 + 18 * B + 3 * L + 2 = 138 + 18 * B + 3 * L by omega] at q
  exact ⟨q, ((e_fr.rf.w (by omega) (by omega)).w (by omega) (by omega)).w (by omega) (by omega)⟩

set_option maxRecDepth 100000 in
set_option maxHeartbeats 4000000 in
theorem c_expectedCases {S : mm_S} {I : mm_I} {e : Nat} {s : Nat → Int32} {L : Nat} (hL6 : L < 6) (hE : mm_est S e) (hs : est_at I e s) (hi : Inv s) : mm_ci mX2_expectedCases [.ref e, .ref (e + 7 + 6 * L)] S I (fun q J => q = nI (sp_exp s L) ∧ J = I) := by
  obtain ⟨ek, ep0, ep1, ep2, ep3, ek1, ek2, ebk, ebar, elots⟩ := hE
  obtain ⟨lk, lp0, lp1, lp2, lp3, lbar, lk3, lk4, lk5⟩ := (elots L hL6).2
  have bk := lbar.1
  have hok := (hi.2.1 L hL6).2.1
  have h7 := hi.1.2.2.2.2.1
  have h8 := hi.1.2.2.2.2.2
  have g7 : I e 7 = nI (sv s 7) := hs.1.2.2.2.1.trans h7.1
  have g8 : I e 8 = nI (sv s 8) := hs.1.2.2.2.2.1.trans h8.1
  have hw := (hs.2.2.2.2 L hL6).1
  have hb : ws_sum (fun k => wb_it (sv s (10 + 20 * L)) (sv s 8) (sw s L k)) (sv s (9 + 20 * L)) / 90 ≤ 300 := by
    have q := ws_sum_le (w := fun k => wb_it (sv s (10 + 20 * L)) (sv s 8) (sw s L k)) (b := 2250) (sv s (9 + 20 * L)) (fun k _ => Nat.le_trans (wb_it_le _ _) (hok.2.2.1 k))
    have := hok.1
    omega
  have hx : ∀ n, n ≤ 300 → n * (100 - sv s 7) ≤ 30000 := fun n hn => Nat.le_trans (Nat.mul_le_mul hn (Nat.sub_le 100 (sv s 7))) (by decide)
  refine mm_ci.of okX2_expectedCases rfl (Nat.le_of_ble_eq_true rfl) (lv := [(0, .ref e), (1, .ref (e + 7 + 6 * L))]) rfl ?_
  refine mm_aload_n dX2_expectedCases_0 rfl rfl ?_
  refine mm_getR dX2_expectedCases_1 fl_X2_87 rfl (by assumption) (by assumption) ?_
  refine mm_aload_n dX2_expectedCases_4 rfl rfl ?_
  refine mm_getI dX2_expectedCases_5 fl_X2_39 rfl (by assumption) ?_
  refine mm_tope (y := nI (sv s 8)) g8 ?_
  refine mm_Vi (N := mX0_casesBehind) (ci := 0) (as := [_]) dX2_expectedCases_8 lk_X2_211 okX0_casesBehind (by decide) rfl (by decide) rfl (by assumption) rfl (by decide) (c_casesBehind lbar hw hok (by omega)) (fun r1 J1 hq => ?_)
  obtain ⟨rfl, hJ⟩ := hq
  subst J1
  refine mm_bipush 100 dX2_expectedCases_11 rfl ?_
  refine mm_aload_n dX2_expectedCases_13 rfl rfl ?_
  refine mm_getI dX2_expectedCases_14 fl_X2_35 rfl (by assumption) ?_
  refine mm_tope (y := nI (sv s 7)) g7 ?_
  refine mm_isub dX2_expectedCases_17 ?_
  refine mm_tope (y := nI (100 - sv s 7)) (pk_sub (a := 100) (by omega)) ?_
  refine mm_imul dX2_expectedCases_18 ?_
  refine mm_tope (y := nI (ws_sum (fun k => wb_it (sv s (10 + 20 * L)) (sv s 8) (sw s L k)) (sv s (9 + 20 * L)) / 90 * (100 - sv s 7))) (pk_mul _ _) ?_
  refine mm_bipush 100 dX2_expectedCases_19 rfl ?_
  refine mm_idiv dX2_expectedCases_21 (by decide) ?_
  refine mm_tope (y := nI (sp_exp s L)) (pk_div (d := 100) (by have := hx _ hb; omega) (by omega) (by omega)) ?_
  refine mm_iret dX2_expectedCases_22 rfl ?_
  exact ⟨rfl, _, rfl, rfl, rfl⟩
set_option maxRecDepth 100000 in
set_option maxHeartbeats 4000000 in
theorem c_sellFutures {S : mm_S} {I : mm_I} {e : Nat} {s : Nat → Int32} {l b c p : Int32} (hE : mm_est S e) (hs : est_at I e s) (hi : Inv s) : mm_ci mX2_sellFutures [.ref e, .int l, .int b, .int c, .int p] S I (e_Q e I (sp_sell s l b c p)) := by
  have hE0 := hE
  obtain ⟨ek, ep0, ep1, ep2, ep3, ek1, ek2, ebk, ebar, elots⟩ := hE
  refine mm_ci.of okX2_sellFutures rfl (Nat.le_of_ble_eq_true rfl) (lv := [(0, .ref e), (1, .int l), (2, .int b), (3, .int c), (4, .int p)]) rfl ?_
  refine mm_aload_n dX2_sellFutures_0 rfl rfl ?_
  refine mm_iload_n dX2_sellFutures_1 rfl rfl ?_
  refine mm_Vr (N := mX2_lotAt) (ci := 2) (as := [_]) dX2_sellFutures_2 lk_X2_83 okX2_lotAt (by decide) rfl (by decide) rfl (by assumption) rfl (by decide) (c_lotAt hE0 hs hi) (fun r1 J1 hq => ?_)
  obtain ⟨rfl, hJ⟩ := hq
  subst J1
  by_cases y1 : 0 ≤ l ∧ l < s 0
  · rw [if_pos y1]
    obtain ⟨L, hLn, hL6, rfl, hLc⟩ := inv_l hi y1
    rw [hLc]
    obtain ⟨lk, lp0, lp1, lp2, lp3, lbar, lk3, lk4, lk5⟩ := (elots L hL6).2
    have hL := (elots L hL6).2
    have hlat := hs.2.2.2.2 L hL6
    have hok := (hi.2.1 L hL6).2.1
    have hbk : (S.2.1 (e + 3)).1 = 1 := ebk.1
    have hh := fun b (hb : b < 6) => inv_h (b := b) hi hL6 hb
    have hsumI : is_sum (I (e + 7 + 6 * L + 3)) 6 = nI (hsum s L) := is_sum_nI 6 (fun b hb => by rw [(hlat.2.1 b hb).1]; exact (hh b hb).1)
    have hs300 : hsum s L ≤ 300 := (hi.2.1 L hL6).2.2.2.2.2.2.1.1
    have hx300 := sp_exp_le hi hL6
    refine mm_astore dX2_sellFutures_5 (Nat.le_of_ble_eq_true rfl) ?_
    refine mm_aload dX2_sellFutures_7 rfl ?_
    refine mm_ifnull dX2_sellFutures_9 ?_
    refine mm_aload_n dX2_sellFutures_12 rfl rfl ?_
    refine mm_iload_n dX2_sellFutures_13 rfl rfl ?_
    refine mm_Vi (N := mX2_hasBuyer) (ci := 2) (as := [_]) dX2_sellFutures_14 lk_X2_73 okX2_hasBuyer (by decide) rfl (by decide) rfl (by assumption) rfl (by decide) (c_hasBuyer hE0 hs.1.2.1 hi) (fun r2 J2 hq => ?_)
    obtain ⟨rfl, hJ⟩ := hq
    subst J2
    refine mm_if_eq 43 dX2_sellFutures_17 (by decide) (fun c_17 => ?_) (fun c_17 => ?_)
    · skip
      have n2 := if_no c_17
      refine mm_ldc dX2_sellFutures_43 ct_X2_81 ?_
      refine mm_iret dX2_sellFutures_45 rfl ?_
      first
        | exact ⟨rfl, _, rfl, e_Q_err (if_pos (fun q => n2 q.2.1)) hs⟩
        | exact ⟨rfl, _, rfl, e_Q_err (if_pos (fun q => n3 q.2.2.1)) hs⟩
        | exact ⟨rfl, _, rfl, e_Q_err (if_pos (fun q => n4 q.2.2.2)) hs⟩
    · skip
      have y2 := if_yes c_17
      obtain ⟨B, hBn, hB6, rfl, hBc⟩ := inv_b hi y2
      refine mm_iload_n dX2_sellFutures_20 rfl rfl ?_
      refine mm_iconst 1 dX2_sellFutures_21 rfl ?_
      refine mm_sipush 999 dX2_sellFutures_22 rfl ?_
      refine mm_SNi (N := mX7_within) (as := [_, _, _]) dX2_sellFutures_25 lk_X2_77 okX7_within (by decide) rfl rfl (by decide) c_within (fun r3 J2 hq => ?_)
      obtain ⟨rfl, hJ⟩ := hq
      subst J2
      refine mm_if_eq 43 dX2_sellFutures_28 (by decide) (fun c_28 => ?_) (fun c_28 => ?_)
      · skip
        have n3 := if_no c_28
        refine mm_ldc dX2_sellFutures_43 ct_X2_81 ?_
        refine mm_iret dX2_sellFutures_45 rfl ?_
        first
          | exact ⟨rfl, _, rfl, e_Q_err (if_pos (fun q => n2 q.2.1)) hs⟩
          | exact ⟨rfl, _, rfl, e_Q_err (if_pos (fun q => n3 q.2.2.1)) hs⟩
          | exact ⟨rfl, _, rfl, e_Q_err (if_pos (fun q => n4 q.2.2.2)) hs⟩
      · skip
        have y3 := if_yes c_28
        obtain ⟨C, hC1, hC9, rfl, hCc⟩ := int_p (n := 999) rfl (by omega) y3
        refine mm_iload dX2_sellFutures_31 rfl ?_
        refine mm_iconst 0 dX2_sellFutures_33 rfl ?_
        refine mm_sipush 999 dX2_sellFutures_34 rfl ?_
        refine mm_SNi (N := mX7_within) (as := [_, _, _]) dX2_sellFutures_37 lk_X2_77 okX7_within (by decide) rfl rfl (by decide) c_within (fun r4 J2 hq => ?_)
        obtain ⟨rfl, hJ⟩ := hq
        subst J2
        refine mm_if_ne 46 dX2_sellFutures_40 (by decide) (fun c_40 => ?_) (fun c_40 => ?_)
        · skip
          have y4 := if_yes c_40
          have hsp : sp_sell s (nI L) (nI B) (nI C) p = if ¬ (sv s (13 + 20 * L) = 0 ∧ hsum s L + C ≤ sp_exp s L) then (-2000000002, s)
              else (s (136 + 18 * B + 3 * L) + nI C, sp_enter (sp_comes s B L (nI C) p 6) 0 (nI L) (nI B) (nI C) p (-2000000004)) := by
            unfold sp_sell
            rw [if_neg (fun q => q ⟨y1, y2, y3, y4⟩), hLc, hBc, hCc]
          refine mm_aload dX2_sellFutures_46 rfl ?_
          refine mm_getI dX2_sellFutures_48 fl_X2_126 rfl (by assumption) ?_
          refine mm_tope (y := s (13 + 20 * L)) hlat.2.2.1 ?_
          refine mm_if_ne 70 dX2_sellFutures_51 (by decide) (fun c_51 => ?_) (fun c_51 => ?_)
          · skip
            have z1 : ¬ (sv s (13 + 20 * L) = 0 ∧ hsum s L + C ≤ sp_exp s L) := fun q => c_51 ((inv_open hi hL6).mpr q.1)
            refine mm_ldc dX2_sellFutures_70 ct_X2_98 ?_
            refine mm_iret dX2_sellFutures_72 rfl ?_
            exact ⟨rfl, _, rfl, e_Q_err (by rw [hsp, if_pos z1]) hs⟩
          · skip
            have y5 := (inv_open hi hL6).mp c_51
            refine mm_aload dX2_sellFutures_54 rfl ?_
            refine mm_Vi (N := mX4_allHeld) (ci := 4) (as := []) dX2_sellFutures_56 lk_X2_133 okX4_allHeld (by decide) rfl (by decide) rfl (by assumption) rfl (by decide) (c_allHeld hL) (fun r5 J2 hq => ?_)
            obtain ⟨rfl, hJ⟩ := hq
            subst J2
            rw [hsumI]
            refine mm_iload_n dX2_sellFutures_59 rfl rfl ?_
            refine mm_iadd dX2_sellFutures_60 ?_
            refine mm_tope (y := nI (hsum s L + C)) (nI_add _ _) ?_
            refine mm_aload_n dX2_sellFutures_61 rfl rfl ?_
            refine mm_aload dX2_sellFutures_62 rfl ?_
            refine mm_Vi (N := mX2_expectedCases) (ci := 2) (as := [_]) dX2_sellFutures_64 lk_X2_159 okX2_expectedCases (by decide) rfl (by decide) rfl (by assumption) rfl (by first | decide | (simp [Value.category])) (c_expectedCases hL6 hE0 hs hi) (fun r6 J2 hq => ?_)
            obtain ⟨rfl, hJ⟩ := hq
            subst J2
            refine mm_icmp_le 73 dX2_sellFutures_67 (by decide) (fun c_67 => ?_) (fun c_67 => ?_)
            · skip
              have y6 := (nI_leI (by omega) (by omega)).mp c_67
              refine mm_aload dX2_sellFutures_73 rfl ?_
              refine mm_iload_n dX2_sellFutures_75 rfl rfl ?_
              refine mm_iload_n dX2_sellFutures_76 rfl rfl ?_
              refine mm_iload_n dX2_sellFutures_77 rfl rfl ?_
              refine mm_iload dX2_sellFutures_78 rfl ?_
              refine mm_imul dX2_sellFutures_80 ?_
              refine mm_Vv (N := mX4_give) (ci := 4) (as := [_, _, _]) dX2_sellFutures_81 lk_X2_163 okX4_give (by decide) rfl (by decide) rfl (by assumption) rfl (by decide) (c_giveE hE0 (EA.of hs hi) hL6 hB6) (fun J3 hq => ?_)
              obtain ⟨g1, f1⟩ := hq
              refine mm_aload_n dX2_sellFutures_84 rfl rfl ?_
              refine mm_iload_n dX2_sellFutures_85 rfl rfl ?_
              refine mm_iload_n dX2_sellFutures_86 rfl rfl ?_
              refine mm_iload dX2_sellFutures_87 rfl ?_
              refine mm_imul dX2_sellFutures_89 ?_
              refine mm_Vv (N := mX2_payEstate) (ci := 2) (as := [_, _]) dX2_sellFutures_90 lk_X2_151 okX2_payEstate (by decide) rfl (by decide) rfl (by assumption) rfl (by decide) (c_payE (s := s) hE0 g1 (by unfold upd; rw [if_neg (by omega), if_neg (by omega)]) hi hBn) (fun J4 hq => ?_)
              obtain ⟨g2, f2⟩ := hq
              have hcm : upd (upd (upd (upd s (136 + 18 * B + 3 * L) (s (136 + 18 * B + 3 * L) + nI C)) (137 + 18 * B + 3 * L) (s (137 + 18 * B + 3 * L) + nI C * p)) (129 + B) ((upd (upd s (136 + 18 * B + 3 * L) (s (136 + 18 * B + 3 * L) + nI C)) (137 + 18 * B + 3 * L) (s (137 + 18 * B + 3 * L) + nI C * p)) (129 + B) - nI C * p)) 135 ((upd (upd s (136 + 18 * B + 3 * L) (s (136 + 18 * B + 3 * L) + nI C)) (137 + 18 * B + 3 * L) (s (137 + 18 * B + 3 * L) + nI C * p)) 135 + nI C * p) = sp_comes s B L (nI C) p 6 := by
                unfold sp_comes
                rw [show (upd (upd s (136 + 18 * B + 3 * L) (s (136 + 18 * B + 3 * L) + nI C)) (137 + 18 * B + 3 * L) (s (137 + 18 * B + 3 * L) + nI C * p)) (129 + B) = s (129 + B) from (if_neg (by omega)).trans (if_neg (by omega)), show (upd (upd s (136 + 18 * B + 3 * L) (s (136 + 18 * B + 3 * L) + nI C)) (137 + 18 * B + 3 * L) (s (137 + 18 * B + 3 * L) + nI C * p)) 135 = s 135 from (if_neg (by omega)).trans (if_neg (by omega))]
                show _ = upd _ 135 (upd (upd (upd s (136 + 18 * B + 3 * L) (s (136 + 18 * B + 3 * L) + nI C)) (137 + 18 * B + 3 * L) (s (137 + 18 * B + 3 * L) + nI C * p)) (129 + B) _ 135 + nI C * p)
                rw [show upd (upd (upd s (136 + 18 * B + 3 * L) (s (136 + 18 * B + 3 * L) + nI C)) (137 + 18 * B + 3 * L) (s (137 + 18 * B + 3 * L) + nI C * p)) (129 + B) (s (129 + B) - nI C * p) 135 = s 135 from (if_neg (by omega)).trans ((if_neg (by omega)).trans (if_neg (by omega)))]
              rw [hcm] at g2
              have h6c : sp_comes s B L (nI C) p 6 6 = s 6 := sp_comes_at (by omega) (by omega) (by omega) (by omega)
              refine mm_aload_n dX2_sellFutures_93 rfl rfl ?_
              refine mm_getR dX2_sellFutures_94 fl_X2_24 rfl (by assumption) (by assumption) ?_
              refine mm_iconst 0 dX2_sellFutures_97 rfl ?_
              refine mm_iload_n dX2_sellFutures_98 rfl rfl ?_
              refine mm_iload_n dX2_sellFutures_99 rfl rfl ?_
              refine mm_iload_n dX2_sellFutures_100 rfl rfl ?_
              refine mm_iload dX2_sellFutures_101 rfl ?_
              refine mm_ldc dX2_sellFutures_103 ct_X2_154 ?_
              refine mm_Vv (N := mX1_write) (ci := 1) (as := [_, _, _, _, _, _]) dX2_sellFutures_105 lk_X2_155 okX1_write (by decide) rfl (by decide) rfl (by assumption) rfl (by decide) (c_bookE hE0 g2 (by rw [sv_congr h6c, h6c]; exact hi.1.2.2.2.1)) (fun J5 hq => ?_)
              obtain ⟨g3, f3⟩ := hq
              refine mm_aload dX2_sellFutures_108 rfl ?_
              refine mm_iload_n dX2_sellFutures_110 rfl rfl ?_
              refine mm_Vi (N := mX4_heldBy) (ci := 4) (as := [_]) dX2_sellFutures_111 lk_X2_167 okX4_heldBy (by decide) rfl (by decide) rfl (by assumption) rfl (by decide) (c_heldBy hL hB6) (fun r7 J6 hq => ?_)
              obtain ⟨rfl, hJ⟩ := hq
              subst J6
              rw [((g3.1.2.2.2.2 L hL6).2.1 B hB6).1, sp_enter_at (by omega) (by omega), sp_comes_h hB6 (by omega)]
              refine mm_iret dX2_sellFutures_114 rfl ?_
              refine ⟨rfl, _, rfl, ?_⟩
              unfold e_Q
              rw [hsp, if_neg (fun q => q ⟨y5, y6⟩)]
              exact ⟨rfl, g3.1, (f1.tr f2).tr f3⟩
            · skip
              have z1 : ¬ (sv s (13 + 20 * L) = 0 ∧ hsum s L + C ≤ sp_exp s L) := fun q => c_67 (nI_le q.2 (by omega))
              refine mm_ldc dX2_sellFutures_70 ct_X2_98 ?_
              refine mm_iret dX2_sellFutures_72 rfl ?_
              exact ⟨rfl, _, rfl, e_Q_err (by rw [hsp, if_pos z1]) hs⟩
        · skip
          have n4 := if_no c_40
          refine mm_ldc dX2_sellFutures_43 ct_X2_81 ?_
          refine mm_iret dX2_sellFutures_45 rfl ?_
          first
            | exact ⟨rfl, _, rfl, e_Q_err (if_pos (fun q => n2 q.2.1)) hs⟩
            | exact ⟨rfl, _, rfl, e_Q_err (if_pos (fun q => n3 q.2.2.1)) hs⟩
            | exact ⟨rfl, _, rfl, e_Q_err (if_pos (fun q => n4 q.2.2.2)) hs⟩
  · rw [if_neg y1]
    refine mm_astoreN dX2_sellFutures_5 (Nat.le_of_ble_eq_true rfl) ?_
    refine mm_aloadN dX2_sellFutures_7 rfl ?_
    refine mm_ifnullN 43 dX2_sellFutures_9 (by decide) ?_
    refine mm_ldc dX2_sellFutures_43 ct_X2_81 ?_
    refine mm_iret dX2_sellFutures_45 rfl ?_
    exact ⟨rfl, _, rfl, e_Q_err (if_pos (fun q => y1 q.1)) hs⟩
  
