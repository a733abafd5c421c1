/-! THE CLASS: deadline, topping, loser -/
/-- only the forecast has changed -/
def fc_fr (e : Nat) (I J : mm_I) : Prop := ∀ c, c ≠ e + 5 → c ≠ e + 5 + 1 → J c = I c
theorem fc_fr.rf {e : Nat} {I : mm_I} : fc_fr e I I := fun _ _ _ => rfl
theorem fc_fr.tr {e : Nat} {I J K : mm_I} (h : fc_fr e I J) (g : fc_fr e J K) : fc_fr e I K := fun c h1 h2 => (g c h1 h2).trans (h c h1 h2)
theorem fc_fr.e {e : Nat} {I J : mm_I} (h : fc_fr e I J) : e_fr e I J := fun c hc => h c (by omega) (by omega)
theorem fc_fr.est {e : Nat} {I J : mm_I} {s : Nat → Int32} (h : fc_fr e I J) (hs : est_at I e s) : est_at J e s := by
  obtain ⟨a, b, c, d, f⟩ := hs
  have h0 := h e (by omega) (by omega)
  have h2 := h (e + 2) (by omega) (by omega)
  have h3 := h (e + 3) (by omega) (by omega)
  have h4 := h (e + 3 + 1) (by omega) (by omega)
  refine ⟨by rw [h0]; exact a, by rw [h2]; exact b, by rw [h3]; exact c, by rw [h4]; exact d, fun l hl => lot_at_I (fun c h1 h2 => h c (by omega) (by omega)) (f l hl)⟩
def e_A (e : Nat) (I : mm_I) (s : Nat → Int32) (x : Int32) : Int32 → mm_I → Prop := fun q J => q = x ∧ est_at J e s ∧ fc_fr e I J
/-- the lot's barrels are copied into the forecast -/
theorem fc_copy {I : mm_I} {e L n r : Nat} {w : Nat → Nat} (hw : wv_at I (e + 7 + 6 * L + 1) n r w) : wv_at (mm_wr (mm_wr (mm_row I (e + 5 + 1) 12 (I (e + 7 + 6 * L + 1 + 1))) (e + 5) 1 (I (e + 7 + 6 * L + 1) 1)) (e + 5) 2 (I (e + 7 + 6 * L + 1) 2)) (e + 5) n r w ∧ fc_fr e I (mm_wr (mm_wr (mm_row I (e + 5 + 1) 12 (I (e + 7 + 6 * L + 1 + 1))) (e + 5) 1 (I (e + 7 + 6 * L + 1) 1)) (e + 5) 2 (I (e + 7 + 6 * L + 1) 2)) := by
  refine ⟨⟨?_, ?_, fun k hk => ?_⟩, fun c h1 h2 => by rw [mm_wr_row h1, mm_wr_row h1, mm_row_n h2]⟩
  · rw [mm_wr_k (by omega), mm_wr_s]; exact hw.1
  · rw [mm_wr_s]; exact hw.2.1
  · rw [mm_wr_row (by omega), mm_wr_row (by omega), mm_row_in hk]; exact hw.2.2 k hk
theorem w_find_end {p : Nat → Bool} {i : Nat} : w_find p i 0 = none := rfl
def lsV (c : Nat → Nat) (b : Nat) : Int32 := if (lsW c b).2 = 0 then 0 else (lsW c b).1
theorem lsW_z {c : Nat → Nat} : ∀ n, (lsW c n).2 = 0 → (lsW c n).1 = -2000000004
  | 0, _ => rfl
  | n + 1, h => by
    have q : lsW c (n + 1) = if (lsW c n).2 < c n then (nI n, c n) else lsW c n := rfl
    rw [q] at h ⊢
    by_cases h1 : (lsW c n).2 < c n
    · rw [if_pos h1] at h
      exact absurd h (by show ¬ c n = 0; omega)
    · rw [if_neg h1] at h ⊢
      exact lsW_z n h
theorem lsW_p {c : Nat → Nat} : ∀ n, ¬ (lsW c n).2 = 0 → ∃ k, k < n ∧ (lsW c n).1 = nI k
  | 0, h => absurd rfl h
  | n + 1, h => by
    have q : lsW c (n + 1) = if (lsW c n).2 < c n then (nI n, c n) else lsW c n := rfl
    rw [q] at h ⊢
    by_cases h1 : (lsW c n).2 < c n
    · rw [if_pos h1]; exact ⟨n, Nat.lt_succ_self n, rfl⟩
    · rw [if_neg h1] at h ⊢
      obtain ⟨k, h2, h3⟩ := lsW_p n h
      exact ⟨k, by omega, h3⟩
theorem lsW_300 {c : Nat → Nat} (h : ∀ b, b < 6 → c b ≤ 300) : ∀ n, n ≤ 6 → (lsW c n).2 ≤ 300
  | 0, _ => Nat.zero_le _
  | n + 1, hn => by
    have q : lsW c (n + 1) = if (lsW c n).2 < c n then (nI n, c n) else lsW c n := rfl
    rw [q]
    by_cases h1 : (lsW c n).2 < c n
    · rw [if_pos h1]; exact h n (by omega)
    · rw [if_neg h1]; exact lsW_300 h n (by omega)
theorem lsW_A {c : Nat → Nat} {n : Nat} {f : Int32} (hn : n ≤ 6) (h : ¬ (lsW c n).2 = 0) : lsA (lsW c n) f = if f = 0 then lsV c n else nI (lsW c n).2 := by
  obtain ⟨k, h2, h3⟩ := lsW_p n h
  unfold lsA lsV
  rw [if_neg (by rw [h3]; exact nI_pos (by omega)), if_neg h]
theorem lsW_S {c : Nat → Nat} {n : Nat} (h : (lsW c n).2 < c n) : lsW c (n + 1) = (nI n, c n) := if_pos h
theorem lsW_N {c : Nat → Nat} {n : Nat} (h : ¬ (lsW c n).2 < c n) : lsW c (n + 1) = lsW c n := if_neg h

theorem fc_lose {I : mm_I} {a n r t : Nat} {w : Nat → Nat} (h : wv_at I a n r (fun k => wb_it r t (w k))) (ho : wv_ok n r (fun k => wb_it r t (w k))) : wv_at (mm_row I (a + 1) n (fun k => nI (wb_it r 1 (wb_it r t (w k))))) a n r (fun k => wb_it r (t + 1) (w k)) := by
  refine ⟨by rw [mm_row_n (by omega)]; exact h.1, by rw [mm_row_n (by omega)]; exact h.2.1, fun k hk => ?_⟩
  by_cases hkn : k < n
  · rw [mm_row_in hkn]
    show nI (wb_it r 1 (wb_it r t (w k))) = nI (wb_it r (t + 1) (w k))
    rw [wb_it_add t 1]
  · rw [mm_row_o hkn, h.2.2 k hk]
    show nI (wb_it r t (w k)) = nI (wb_it r (t + 1) (w k))
    have q : wb_it r t (w k) = 0 := ho.2.2.2.2 k (by omega)
    rw [wb_it_add t 1, q, wb_it_z]
theorem wv_ok_it {n r t : Nat} {w : Nat → Nat} (ho : wv_ok n r w) : wv_ok n r (fun k => wb_it r t (w k)) :=
  ⟨ho.1, ho.2.1, fun k => Nat.le_trans (wb_it_le _ _) (ho.2.2.1 k), fun k hk => wb_it_pos ho.2.1 _ _ (ho.2.2.2.1 k hk), fun k hk => by
    show wb_it r t (w k) = 0
    rw [ho.2.2.2.2 k hk, wb_it_z]⟩

set_option maxRecDepth 100000 in
set_option maxHeartbeats 4000000 in
theorem c_monthsUntilTooFew {S : mm_S} {I : mm_I} {e : Nat} {s : Nat → Int32} {l : Int32} (hE : mm_est S e) (hs : est_at I e s) (hi : Inv s) : mm_ci mX2_monthsUntilTooFew [.ref e, .int l] S I (e_A e I s (sq_deadline s l)) := by
  have hE0 := hE
  obtain ⟨ek, ep0, ep1, ep2, ep3, ek1, ek2, ebk, ebar, elots⟩ := hE
  refine mm_ci.of okX2_monthsUntilTooFew rfl (Nat.le_of_ble_eq_true rfl) (lv := [(0, .ref e), (1, .int l)]) rfl ?_
  refine mm_aload_n dX2_monthsUntilTooFew_0 rfl rfl ?_
  refine mm_iload_n dX2_monthsUntilTooFew_1 rfl rfl ?_
  refine mm_Vr (N := mX2_lotAt) (ci := 2) (as := [_]) dX2_monthsUntilTooFew_2 lk_X2_83 okX2_lotAt (by decide) rfl (by decide) rfl (by assumption) rfl (by decide) (c_lotAt hE0 hs hi) (fun r1 J1 hq => ?_)
  obtain ⟨rfl, hJ⟩ := hq
  subst J1
  by_cases y1 : 0 ≤ l ∧ l < s 0
  · rw [if_pos y1]
    obtain ⟨L, hLn, hL6, rfl, hLc⟩ := inv_l hi y1
    rw [hLc]
    obtain ⟨lk, lp0, lp1, lp2, lp3, lbar, lk3, lk4, lk5⟩ := (elots L hL6).2
    have hL := (elots L hL6).2
    have hlat := hs.2.2.2.2 L hL6
    have hok := (hi.2.1 L hL6).2.1
    have bk := lbar.1
    have ebk0 := ebar.1
    have hs300 : hsum s L ≤ 300 := (hi.2.1 L hL6).2.2.2.2.2.2.1.1
    refine mm_astore_n dX2_monthsUntilTooFew_5 rfl (Nat.le_of_ble_eq_true rfl) ?_
    refine mm_aload_n dX2_monthsUntilTooFew_6 rfl rfl ?_
    refine mm_ifnonnull 13 dX2_monthsUntilTooFew_7 (by decide) ?_
    refine mm_aload_n dX2_monthsUntilTooFew_13 rfl rfl ?_
    refine mm_getI dX2_monthsUntilTooFew_14 fl_X2_126 rfl (by assumption) ?_
    refine mm_tope (y := s (13 + 20 * L)) hlat.2.2.1 ?_
    refine mm_if_eq 23 dX2_monthsUntilTooFew_17 (by decide) (fun c_17 => ?_) (fun c_17 => ?_)
    · skip
      have y4 := (inv_open hi hL6).mp c_17
      refine mm_aload_n dX2_monthsUntilTooFew_23 rfl rfl ?_
      refine mm_Vi (N := mX4_allHeld) (ci := 4) (as := []) dX2_monthsUntilTooFew_24 lk_X2_133 okX4_allHeld (by decide) rfl (by decide) rfl (by assumption) rfl (by decide) (c_allHeldE hL6 hE0 hs hi) (fun r2 J2 hq => ?_)
      obtain ⟨rfl, hJ⟩ := hq
      subst J2
      refine mm_istore_n dX2_monthsUntilTooFew_27 rfl (Nat.le_of_ble_eq_true rfl) ?_
      refine mm_aload_n dX2_monthsUntilTooFew_28 rfl rfl ?_
      refine mm_getR dX2_monthsUntilTooFew_29 fl_X2_31 rfl (by assumption) (by assumption) ?_
      refine mm_aload_n dX2_monthsUntilTooFew_32 rfl rfl ?_
      refine mm_getR dX2_monthsUntilTooFew_33 fl_X2_87 rfl (by assumption) (by assumption) ?_
      refine mm_Vv (N := mX0_copyBarrels) (ci := 0) (as := [_]) dX2_monthsUntilTooFew_36 lk_X2_219 okX0_copyBarrels (by decide) rfl (by decide) rfl (by assumption) rfl (by decide) (c_copyBarrels ebar lbar (by omega)) (fun J2 hq => ?_)
      obtain ⟨k1, k2⟩ := fc_copy (e := e) hlat.1
      rw [← hq] at k1 k2
      clear hq
      refine mm_iconst 0 dX2_monthsUntilTooFew_39 rfl ?_
      refine mm_istore dX2_monthsUntilTooFew_40 (Nat.le_of_ble_eq_true rfl) ?_
      have hsp : sq_deadline s (nI L) = match w_find (fun t => decide (w_at s L t < hsum s L)) 0 121 with | some t => nI t | none => -2000000004 := by
        unfold sq_deadline
        rw [if_neg (fun q => q y1), hLc, if_neg (fun q => q y4)]
        rfl
      have loop : ∀ (u t : Nat) (I1 : mm_I), t + u = 121 → w_find (fun t => decide (w_at s L t < hsum s L)) t u = w_find (fun t => decide (w_at s L t < hsum s L)) 0 121 → wv_at I1 (e + 5) (sv s (9 + 20 * L)) (sv s (10 + 20 * L)) (fun k => wb_it (sv s (10 + 20 * L)) t (sw s L k)) → fc_fr e I I1 → mm_Gi mX2_monthsUntilTooFew (e_A e I s (sq_deadline s (nI L))) 42 [(4, .int (nI t)), (3, .int (nI (hsum s L))), (2, .ref (e + 7 + 6 * L)), (0, .ref e), (1, .int (nI L))] [] S S I1 := by
        intro u
        induction u with
        | zero =>
          intro t I1 htu hf g1 g2
          refine mm_iload dX2_monthsUntilTooFew_42 rfl ?_
          refine mm_bipush 120 dX2_monthsUntilTooFew_44 rfl ?_
          refine mm_icmp_gt 79 dX2_monthsUntilTooFew_46 (by decide) (fun c_46 => ?_) (fun c_46 => absurd (nI_ge (a := 120) (by omega) (by omega) |> Int32.not_le.mp) c_46)
          refine mm_ldc dX2_monthsUntilTooFew_79 ct_X2_154 ?_
          refine mm_iret dX2_monthsUntilTooFew_81 rfl ?_
          exact ⟨rfl, _, rfl, by rw [hsp, ← hf]; rfl, g2.est hs, g2⟩
        | succ u ih =>
          intro t I1 htu hf g1 g2
          have hokt := wv_ok_it (t := t) hok
          have hwle : w_at s L t ≤ 300 := by
            have q := ws_sum_le (w := fun k => wb_it (sv s (10 + 20 * L)) t (sw s L k)) (b := 2250) (sv s (9 + 20 * L)) (fun k _ => hokt.2.2.1 k)
            have := hok.1
            unfold w_at
            omega
          refine mm_iload dX2_monthsUntilTooFew_42 rfl ?_
          refine mm_bipush 120 dX2_monthsUntilTooFew_44 rfl ?_
          refine mm_icmp_gt 79 dX2_monthsUntilTooFew_46 (by decide) (fun c_46 => absurd c_46 (Int32.not_lt.mpr (nI_le (b := 120) (by omega) (by omega)))) (fun c_46 => ?_)
          refine mm_aload_n dX2_monthsUntilTooFew_49 rfl rfl ?_
          refine mm_getR dX2_monthsUntilTooFew_50 fl_X2_31 rfl (by assumption) (by assumption) ?_
          refine mm_iconst 0 dX2_monthsUntilTooFew_53 rfl ?_
          refine mm_Vi (N := mX0_casesBehind) (ci := 0) (as := [_]) dX2_monthsUntilTooFew_54 lk_X2_211 okX0_casesBehind (by decide) rfl (by decide) rfl (by assumption) rfl (by decide) (c_casesBehind (m := 0) ebar g1 hokt (by omega)) (fun r2 J2 hq => ?_)
          refine mm_tope (y := nI (w_at s L t)) hq.1 ?_
          obtain ⟨-, hJ⟩ := hq
          subst J2
          refine mm_iload_n dX2_monthsUntilTooFew_57 rfl rfl ?_
          refine mm_icmp_ge 64 dX2_monthsUntilTooFew_58 (by decide) (fun c_58 => ?_) (fun c_58 => ?_)
          · skip
            have hge : ¬ w_at s L t < hsum s L := fun q => absurd c_58 (nI_ge q (by omega))
            rw [w_find_more (fun q => hge (of_decide_eq_true q))] at hf
            refine mm_aload_n dX2_monthsUntilTooFew_64 rfl rfl ?_
            refine mm_getR dX2_monthsUntilTooFew_65 fl_X2_31 rfl (by assumption) (by assumption) ?_
            refine mm_iconst 1 dX2_monthsUntilTooFew_68 rfl ?_
            refine mm_Vi (N := mX0_lose) (ci := 0) (as := [_]) dX2_monthsUntilTooFew_69 lk_X2_122 okX0_lose (by decide) rfl (by decide) rfl (by assumption) rfl (by decide) (c_lose (m := 1) ebar g1 hokt (by omega)) (fun r3 J3 hq => ?_)
            obtain ⟨-, hJ⟩ := hq
            subst hJ
            refine mm_pop dX2_monthsUntilTooFew_72 rfl ?_
            refine mm_iinc 1 dX2_monthsUntilTooFew_73 rfl rfl (Nat.le_of_ble_eq_true rfl) ?_
            rw [nI_1]
            refine mm_goto 42 dX2_monthsUntilTooFew_76 (by decide) ?_
            exact mm_G.at (ih (t + 1) _ (by omega) hf (fc_lose g1 hokt) (g2.tr (fun c h1 h2 => mm_row_n h2))) (mm_s1 rfl (mm_s1 rfl (mm_s1 rfl (mm_s1 rfl (mm_s1 rfl mm_s0)))))
          · skip
            have hlt : w_at s L t < hsum s L := Nat.not_le.mp fun q => c_58 (nI_le q (by omega))
            rw [w_find_one (decide_eq_true hlt)] at hf
            refine mm_iload dX2_monthsUntilTooFew_61 rfl ?_
            refine mm_iret dX2_monthsUntilTooFew_63 rfl ?_
            exact ⟨rfl, _, rfl, by rw [hsp, ← hf], g2.est hs, g2⟩
      exact mm_G.at (loop 121 0 _ (by omega) rfl k1 k2) (mm_s1 rfl (mm_s1 rfl (mm_s1 rfl (mm_s1 rfl (mm_s1 rfl mm_s0)))))
    · skip
      have n4 := (lot_13 hi hL6 c_17).2
      refine mm_ldc dX2_monthsUntilTooFew_20 ct_X2_98 ?_
      refine mm_iret dX2_monthsUntilTooFew_22 rfl ?_
      exact ⟨rfl, _, rfl, by unfold sq_deadline; rw [if_neg (fun q => q y1), hLc, if_pos n4], hs, fc_fr.rf⟩
  · rw [if_neg y1]
    refine mm_astoreN_n dX2_monthsUntilTooFew_5 rfl (Nat.le_of_ble_eq_true rfl) ?_
    refine mm_aloadN_n dX2_monthsUntilTooFew_6 rfl rfl ?_
    refine mm_ifnonnullN dX2_monthsUntilTooFew_7 ?_
    refine mm_ldc dX2_monthsUntilTooFew_10 ct_X2_81 ?_
    refine mm_iret dX2_monthsUntilTooFew_12 rfl ?_
    exact ⟨rfl, _, rfl, (if_pos y1).symm, hs, fc_fr.rf⟩
  
set_option maxRecDepth 100000 in
set_option maxHeartbeats 4000000 in
theorem c_gainByTopping {S : mm_S} {I : mm_I} {e : Nat} {s : Nat → Int32} {l : Int32} (hE : mm_est S e) (hs : est_at I e s) (hi : Inv s) : mm_ci mX2_gainByTopping [.ref e, .int l] S I (e_A e I s (sq_topping s l)) := by
  have hE0 := hE
  obtain ⟨ek, ep0, ep1, ep2, ep3, ek1, ek2, ebk, ebar, elots⟩ := hE
  refine mm_ci.of okX2_gainByTopping rfl (Nat.le_of_ble_eq_true rfl) (lv := [(0, .ref e), (1, .int l)]) rfl ?_
  refine mm_aload_n dX2_gainByTopping_0 rfl rfl ?_
  refine mm_iload_n dX2_gainByTopping_1 rfl rfl ?_
  refine mm_Vr (N := mX2_lotAt) (ci := 2) (as := [_]) dX2_gainByTopping_2 lk_X2_83 okX2_lotAt (by decide) rfl (by decide) rfl (by assumption) rfl (by decide) (c_lotAt hE0 hs hi) (fun r1 J1 hq => ?_)
  obtain ⟨rfl, hJ⟩ := hq
  subst J1
  by_cases y1 : 0 ≤ l ∧ l < s 0
  · rw [if_pos y1]
    obtain ⟨L, hLn, hL6, rfl, hLc⟩ := inv_l hi y1
    rw [hLc]
    obtain ⟨lk, lp0, lp1, lp2, lp3, lbar, lk3, lk4, lk5⟩ := (elots L hL6).2
    have hL := (elots L hL6).2
    have hlat := hs.2.2.2.2 L hL6
    have hok := (hi.2.1 L hL6).2.1
    have bk := lbar.1
    have ebk0 := ebar.1
    refine mm_astore_n dX2_gainByTopping_5 rfl (Nat.le_of_ble_eq_true rfl) ?_
    refine mm_aload_n dX2_gainByTopping_6 rfl rfl ?_
    refine mm_ifnonnull 13 dX2_gainByTopping_7 (by decide) ?_
    refine mm_aload_n dX2_gainByTopping_13 rfl rfl ?_
    refine mm_getR dX2_gainByTopping_14 fl_X2_87 rfl (by assumption) (by assumption) ?_
    refine mm_Vi (N := mX0_canBeToppedUp) (ci := 0) (as := []) dX2_gainByTopping_17 lk_X2_112 okX0_canBeToppedUp (by decide) rfl (by decide) rfl (by assumption) rfl (by decide) (c_canBeToppedUp lbar hlat.1 hok) (fun r2 J2 hq => ?_)
    obtain ⟨rfl, hJ⟩ := hq
    subst J2
    refine mm_if_ne 26 dX2_gainByTopping_20 (by decide) (fun c_20 => ?_) (fun c_20 => ?_)
    · skip
      have y2 := if_yes c_20
      refine mm_aload_n dX2_gainByTopping_26 rfl rfl ?_
      refine mm_getR dX2_gainByTopping_27 fl_X2_31 rfl (by assumption) (by assumption) ?_
      refine mm_aload_n dX2_gainByTopping_30 rfl rfl ?_
      refine mm_getR dX2_gainByTopping_31 fl_X2_87 rfl (by assumption) (by assumption) ?_
      refine mm_Vv (N := mX0_copyBarrels) (ci := 0) (as := [_]) dX2_gainByTopping_34 lk_X2_219 okX0_copyBarrels (by decide) rfl (by decide) rfl (by assumption) rfl (by decide) (c_copyBarrels ebar lbar (by omega)) (fun J2 hq => ?_)
      obtain ⟨k1, k2⟩ := fc_copy (e := e) hlat.1
      rw [← hq] at k1 k2
      clear hq
      refine mm_aload_n dX2_gainByTopping_37 rfl rfl ?_
      refine mm_getR dX2_gainByTopping_38 fl_X2_31 rfl (by assumption) (by assumption) ?_
      refine mm_Vv (N := mX0_topUp) (ci := 0) (as := []) dX2_gainByTopping_41 lk_X2_116 okX0_topUp (by decide) rfl (by decide) rfl (by assumption) rfl (by decide) (c_topUp ebar k1 hok) (fun J3 hq => ?_)
      obtain ⟨k3, k4, k5⟩ := hq
      have k6 : fc_fr e I J3 := k2.tr k5
      have e8 : J3 e 8 = nI (sv s 8) := (congrFun (k6 e (by omega) (by omega)) 8).trans (hs.1.2.2.2.2.1.trans hi.1.2.2.2.2.2.1)
      have h36 := hi.1.2.2.2.2.2.2
      refine mm_aload_n dX2_gainByTopping_44 rfl rfl ?_
      refine mm_getR dX2_gainByTopping_45 fl_X2_31 rfl (by assumption) (by assumption) ?_
      refine mm_aload_n dX2_gainByTopping_48 rfl rfl ?_
      refine mm_getI dX2_gainByTopping_49 fl_X2_39 rfl (by assumption) ?_
      refine mm_tope (y := nI (sv s 8)) e8 ?_
      refine mm_Vi (N := mX0_casesBehind) (ci := 0) (as := [_]) dX2_gainByTopping_52 lk_X2_211 okX0_casesBehind (by decide) rfl (by decide) rfl (by assumption) rfl (by decide) (c_casesBehind ebar k3 k4 (by omega)) (fun r4 J4 hq => ?_)
      obtain ⟨rfl, hJ⟩ := hq
      subst J4
      refine mm_aload_n dX2_gainByTopping_55 rfl rfl ?_
      refine mm_getR dX2_gainByTopping_56 fl_X2_87 rfl (by assumption) (by assumption) ?_
      refine mm_aload_n dX2_gainByTopping_59 rfl rfl ?_
      refine mm_getI dX2_gainByTopping_60 fl_X2_39 rfl (by assumption) ?_
      refine mm_tope (y := nI (sv s 8)) e8 ?_
      refine mm_Vi (N := mX0_casesBehind) (ci := 0) (as := [_]) dX2_gainByTopping_63 lk_X2_211 okX0_casesBehind (by decide) rfl (by decide) rfl (by assumption) rfl (by first | decide | (simp [Value.category])) (c_casesBehind lbar ((k6.est hs).2.2.2.2 L hL6).1 hok (by omega)) (fun r5 J5 hq => ?_)
      obtain ⟨rfl, hJ⟩ := hq
      subst J5
      refine mm_isub dX2_gainByTopping_66 ?_
      refine mm_iret dX2_gainByTopping_67 rfl ?_
      refine ⟨rfl, _, rfl, ?_, k6.est hs, k6⟩
      unfold sq_topping
      have h0 : sv s (13 + 20 * L) = 0 := by
        have q1 := (hi.2.1 L hL6).2.2.2.2.1
        rcases Nat.eq_zero_or_pos (sv s (13 + 20 * L)) with q | q
        · exact q
        · have q2 := q1.2.1 (by omega)
          rw [q2] at y2
          cases y2
      rw [if_neg (fun q => q y1), hLc, if_neg (fun q => q h0)]
      cases hnd : w_find (fun k => decide (sw s L k < 2250)) 0 (sv s (9 + 20 * L) - 1) with
      | none => rw [hnd] at y2; cases y2
      | some b => rfl
    · skip
      have n2 := if_no c_20
      refine mm_ldc dX2_gainByTopping_23 ct_X2_98 ?_
      refine mm_iret dX2_gainByTopping_25 rfl ?_
      refine ⟨rfl, _, rfl, ?_, hs, fc_fr.rf⟩
      unfold sq_topping
      rw [if_neg (fun q => q y1), hLc]
      by_cases h0 : sv s (13 + 20 * L) = 0
      · rw [if_neg (fun q => q h0)]
        cases hnd : w_find (fun k => decide (sw s L k < 2250)) 0 (sv s (9 + 20 * L) - 1) with
        | none => rfl
        | some b => rw [hnd] at n2; exact absurd rfl n2
      · rw [if_pos h0]
  · rw [if_neg y1]
    refine mm_astoreN_n dX2_gainByTopping_5 rfl (Nat.le_of_ble_eq_true rfl) ?_
    refine mm_aloadN_n dX2_gainByTopping_6 rfl rfl ?_
    refine mm_ifnonnullN dX2_gainByTopping_7 ?_
    refine mm_ldc dX2_gainByTopping_10 ct_X2_81 ?_
    refine mm_iret dX2_gainByTopping_12 rfl ?_
    exact ⟨rfl, _, rfl, (if_pos y1).symm, hs, fc_fr.rf⟩
  
set_option maxRecDepth 100000 in
set_option maxHeartbeats 4000000 in
theorem c_greatestLoss {S : mm_S} {I : mm_I} {e : Nat} {s : Nat → Int32} {l f : Int32} (hE : mm_est S e) (hs : est_at I e s) (hi : Inv s) : mm_ci mX2_greatestLoss [.ref e, .int l, .int f] S I (e_A e I s (sq_loser s l f)) := by
  have hE0 := hE
  obtain ⟨ek, ep0, ep1, ep2, ep3, ek1, ek2, ebk, ebar, elots⟩ := hE
  refine mm_ci.of okX2_greatestLoss rfl (Nat.le_of_ble_eq_true rfl) (lv := [(0, .ref e), (1, .int l), (2, .int f)]) rfl ?_
  refine mm_aload_n dX2_greatestLoss_0 rfl rfl ?_
  refine mm_iload_n dX2_greatestLoss_1 rfl rfl ?_
  refine mm_Vr (N := mX2_lotAt) (ci := 2) (as := [_]) dX2_greatestLoss_2 lk_X2_83 okX2_lotAt (by decide) rfl (by decide) rfl (by assumption) rfl (by decide) (c_lotAt hE0 hs hi) (fun r1 J1 hq => ?_)
  obtain ⟨rfl, hJ⟩ := hq
  subst J1
  by_cases y1 : 0 ≤ l ∧ l < s 0
  · rw [if_pos y1]
    obtain ⟨L, hLn, hL6, rfl, hLc⟩ := inv_l hi y1
    rw [hLc]
    obtain ⟨lk, lp0, lp1, lp2, lp3, lbar, lk3, lk4, lk5⟩ := (elots L hL6).2
    have hL := (elots L hL6).2
    have hlat := hs.2.2.2.2 L hL6
    have hok := (hi.2.1 L hL6).2.1
    have hs300 : hsum s L ≤ 300 := (hi.2.1 L hL6).2.2.2.2.2.2.1.1
    refine mm_astore_n dX2_greatestLoss_5 rfl (Nat.le_of_ble_eq_true rfl) ?_
    refine mm_aload_n dX2_greatestLoss_6 rfl rfl ?_
    refine mm_ifnull dX2_greatestLoss_7 ?_
    refine mm_iload_n dX2_greatestLoss_10 rfl rfl ?_
    refine mm_iconst 0 dX2_greatestLoss_11 rfl ?_
    refine mm_iconst 1 dX2_greatestLoss_12 rfl ?_
    refine mm_SNi (N := mX7_within) (as := [_, _, _]) dX2_greatestLoss_13 lk_X2_77 okX7_within (by decide) rfl rfl (by decide) c_within (fun r2 J2 hq => ?_)
    obtain ⟨rfl, hJ⟩ := hq
    subst J2
    refine mm_if_ne 22 dX2_greatestLoss_16 (by decide) (fun c_16 => ?_) (fun c_16 => ?_)
    · skip
      have y2 := if_yes c_16
      refine mm_aload_n dX2_greatestLoss_22 rfl rfl ?_
      refine mm_getI dX2_greatestLoss_23 fl_X2_126 rfl (by assumption) ?_
      refine mm_tope (y := s (13 + 20 * L)) hlat.2.2.1 ?_
      refine mm_if_eq 32 dX2_greatestLoss_26 (by decide) (fun c_26 => ?_) (fun c_26 => ?_)
      · skip
        have y4 := (inv_open hi hL6).mp c_26
        refine mm_iconst 0 dX2_greatestLoss_32 rfl ?_
        refine mm_istore dX2_greatestLoss_33 (Nat.le_of_ble_eq_true rfl) ?_
        refine mm_iconst 0 dX2_greatestLoss_35 rfl ?_
        refine mm_istore dX2_greatestLoss_36 (Nat.le_of_ble_eq_true rfl) ?_
        refine mm_iconst 0 dX2_greatestLoss_38 rfl ?_
        refine mm_istore dX2_greatestLoss_39 (Nat.le_of_ble_eq_true rfl) ?_
        have hsp : sq_loser s (nI L) f = lsA (lsW (lsC s L) (sv s 1)) f := by
          unfold sq_loser
          rw [if_neg (fun q => q ⟨y1, y2⟩), hLc, if_neg (fun q => q y4)]
        have h3 : sq_lotF s L 3 = nI (ws_sum (sw s L) (sv s (9 + 20 * L)) / 90) := if_pos y4
        have g5 : I e 5 = nI (sv s 1) := hs.1.2.1.trans hi.1.2.1.1
        have hn6 := hi.1.2.1.2
        have hW := inv_W hi hL6
        have hcl : ∀ b, b < 6 → lsC s L b ≤ 300 := fun b hb => Nat.le_trans w_cut_le (inv_h hi hL6 hb).2.1
        have hls : ∀ n, n ≤ 6 → (lsW (lsC s L) n).2 ≤ 300 := fun n hn => lsW_300 hcl n hn
        have loop : ∀ (t b : Nat), b + t = sv s 1 → mm_Gi mX2_greatestLoss (e_A e I s (sq_loser s (nI L) f)) 41 [(6, .int (nI b)), (5, .int (lsV (lsC s L) b)), (4, .int (nI (lsW (lsC s L) b).2)), (3, .ref (e + 7 + 6 * L)), (0, .ref e), (1, .int (nI L)), (2, .int f)] [] S S I := by
          intro t
          induction t with
          | zero =>
            intro b hbt
            have hm2 := hls b (by omega)
            refine mm_iload dX2_greatestLoss_41 rfl ?_
            refine mm_aload_n dX2_greatestLoss_43 rfl rfl ?_
            refine mm_getI dX2_greatestLoss_44 fl_X2_58 rfl (by assumption) ?_
            refine mm_tope (y := nI (sv s 1)) g5 ?_
            refine mm_icmp_ge 87 dX2_greatestLoss_47 (by decide) (fun c_47 => ?_) (fun c_47 => absurd (nI_le (by omega) (by omega)) c_47)
            refine mm_iload dX2_greatestLoss_87 rfl ?_
            refine mm_if_ne 95 dX2_greatestLoss_89 (by decide) (fun c_89 => ?_) (fun c_89 => ?_)
            · skip
              have hbN : b = sv s 1 := by omega
              have hne : ¬ (lsW (lsC s L) b).2 = 0 := fun q => c_89 (by rw [q]; rfl)
              refine mm_iload_n dX2_greatestLoss_95 rfl rfl ?_
              refine mm_if_ne 104 dX2_greatestLoss_96 (by decide) (fun c_96 => ?_) (fun c_96 => ?_)
              · skip
                have z := c_96
                refine mm_iload dX2_greatestLoss_104 rfl ?_
                refine mm_iret dX2_greatestLoss_106 rfl ?_
                first
                  | exact ⟨rfl, _, rfl, by rw [hsp, ← hbN, lsW_A (by omega) hne, if_pos z], hs, fc_fr.rf⟩
                  | exact ⟨rfl, _, rfl, by rw [hsp, ← hbN, lsW_A (by omega) hne, if_neg z], hs, fc_fr.rf⟩
              · skip
                have z := c_96
                refine mm_iload dX2_greatestLoss_99 rfl ?_
                refine mm_goto 106 dX2_greatestLoss_101 (by decide) ?_
                refine mm_iret dX2_greatestLoss_106 rfl ?_
                first
                  | exact ⟨rfl, _, rfl, by rw [hsp, ← hbN, lsW_A (by omega) hne, if_pos z], hs, fc_fr.rf⟩
                  | exact ⟨rfl, _, rfl, by rw [hsp, ← hbN, lsW_A (by omega) hne, if_neg z], hs, fc_fr.rf⟩
            · skip
              have hbN : b = sv s 1 := by omega
              have hze : (lsW (lsC s L) b).2 = 0 := (nI_eq (b := 0) (by omega) (by omega)).mp c_89
              refine mm_ldc dX2_greatestLoss_92 ct_X2_154 ?_
              refine mm_iret dX2_greatestLoss_94 rfl ?_
              exact ⟨rfl, _, rfl, by rw [hsp, ← hbN]; unfold lsA; rw [lsW_z b hze, if_pos (by decide)], hs, fc_fr.rf⟩
          | succ t ih =>
            intro b hbt
            have hm2 := hls b (by omega)
            have hc2 := hcl b (by omega)
            refine mm_iload dX2_greatestLoss_41 rfl ?_
            refine mm_aload_n dX2_greatestLoss_43 rfl rfl ?_
            refine mm_getI dX2_greatestLoss_44 fl_X2_58 rfl (by assumption) ?_
            refine mm_tope (y := nI (sv s 1)) g5 ?_
            refine mm_icmp_ge 87 dX2_greatestLoss_47 (by decide) (fun c_47 => absurd c_47 (nI_ge (by omega) (by omega))) (fun c_47 => ?_)
            refine mm_aload_n dX2_greatestLoss_50 rfl rfl ?_
            refine mm_iload dX2_greatestLoss_51 rfl ?_
            refine mm_aload_n dX2_greatestLoss_53 rfl rfl ?_
            refine mm_Vi (N := mX4_casesNow) (ci := 4) (as := []) dX2_greatestLoss_54 lk_X2_173 okX4_casesNow (by decide) rfl (by decide) rfl (by assumption) rfl (by first | decide | (simp [Value.category])) (c_casesE hL6 hE0 hs hi) (fun r2 J2 hq => ?_)
            obtain ⟨rfl, hJ⟩ := hq
            subst J2
            rw [h3]
            refine mm_aload_n dX2_greatestLoss_57 rfl rfl ?_
            refine mm_Vi (N := mX4_allHeld) (ci := 4) (as := []) dX2_greatestLoss_58 lk_X2_133 okX4_allHeld (by decide) rfl (by decide) rfl (by assumption) rfl (by first | decide | (simp [Value.category])) (c_allHeldE hL6 hE0 hs hi) (fun r2 J2 hq => ?_)
            obtain ⟨rfl, hJ⟩ := hq
            subst J2
            refine mm_Vi (N := mX4_cutOf) (ci := 4) (as := [_, _, _]) dX2_greatestLoss_61 lk_X2_143 okX4_cutOf (by decide) rfl (by decide) rfl (by assumption) rfl (by decide) (c_cutOf (b := b) hL (by omega) ((hlat.2.1 b (by omega)).1.trans (inv_h hi hL6 (by omega)).1) (by have := (inv_h (b := b) hi hL6 (by omega)).2.1; omega) (by omega) (by omega)) (fun r3 J3 hq => ?_)
            obtain ⟨rfl, hJ⟩ := hq
            subst J3
            refine mm_istore dX2_greatestLoss_64 (Nat.le_of_ble_eq_true rfl) ?_
            refine mm_iload dX2_greatestLoss_66 rfl ?_
            refine mm_iload dX2_greatestLoss_68 rfl ?_
            refine mm_icmp_le 81 dX2_greatestLoss_70 (by decide) (fun c_70 => ?_) (fun c_70 => ?_)
            · skip
              have hc : ¬ (lsW (lsC s L) b).2 < lsC s L b := fun q => nI_ge q (by omega) c_70
              have q1 := lsW_N hc
              have q2 : lsV (lsC s L) (b + 1) = lsV (lsC s L) b := by unfold lsV; rw [q1]
              have ihb := ih (b + 1) (by omega)
              rw [q2, q1] at ihb
              refine mm_iinc 1 dX2_greatestLoss_81 rfl rfl (Nat.le_of_ble_eq_true rfl) ?_
              rw [nI_1]
              refine mm_goto 41 dX2_greatestLoss_84 (by decide) ?_
              exact mm_G.at (ihb) (mm_s1 rfl (mm_s1 rfl (mm_s1 rfl (mm_s1 rfl (mm_s1 rfl (mm_s1 rfl (mm_s1 rfl mm_s0)))))))
            · skip
              have hc : (lsW (lsC s L) b).2 < lsC s L b := Nat.not_le.mp fun q => c_70 (nI_le q (by omega))
              have q1 := lsW_S hc
              have q2 : lsV (lsC s L) (b + 1) = nI b := by unfold lsV; rw [q1]; exact if_neg (by show ¬ lsC s L b = 0; omega)
              have ihb := ih (b + 1) (by omega)
              rw [q2, q1] at ihb
              refine mm_iload dX2_greatestLoss_73 rfl ?_
              refine mm_istore dX2_greatestLoss_75 (Nat.le_of_ble_eq_true rfl) ?_
              refine mm_iload dX2_greatestLoss_77 rfl ?_
              refine mm_istore dX2_greatestLoss_79 (Nat.le_of_ble_eq_true rfl) ?_
              refine mm_iinc 1 dX2_greatestLoss_81 rfl rfl (Nat.le_of_ble_eq_true rfl) ?_
              rw [nI_1]
              refine mm_goto 41 dX2_greatestLoss_84 (by decide) ?_
              exact mm_G.at (ihb) (mm_s1 rfl (mm_s1 rfl (mm_s1 rfl (mm_s1 rfl (mm_s1 rfl (mm_s1 rfl (mm_s1 rfl mm_s0)))))))
        exact mm_G.at (loop (sv s 1) 0 (by omega)) (mm_s1 rfl (mm_s1 rfl (mm_s1 rfl (mm_s1 rfl (mm_s1 rfl (mm_s1 rfl (mm_s1 rfl mm_s0)))))))
      · skip
        have n4 := (lot_13 hi hL6 c_26).2
        refine mm_ldc dX2_greatestLoss_29 ct_X2_98 ?_
        refine mm_iret dX2_greatestLoss_31 rfl ?_
        exact ⟨rfl, _, rfl, by unfold sq_loser; rw [if_neg (fun q => q ⟨y1, y2⟩), hLc, if_pos n4], hs, fc_fr.rf⟩
    · skip
      have n2 := if_no c_16
      refine mm_ldc dX2_greatestLoss_19 ct_X2_81 ?_
      refine mm_iret dX2_greatestLoss_21 rfl ?_
      exact ⟨rfl, _, rfl, (if_pos (fun q => n2 q.2)).symm, hs, fc_fr.rf⟩
  · rw [if_neg y1]
    refine mm_astoreN_n dX2_greatestLoss_5 rfl (Nat.le_of_ble_eq_true rfl) ?_
    refine mm_aloadN_n dX2_greatestLoss_6 rfl rfl ?_
    refine mm_ifnullN 19 dX2_greatestLoss_7 (by decide) ?_
    refine mm_ldc dX2_greatestLoss_19 ct_X2_81 ?_
    refine mm_iret dX2_greatestLoss_21 rfl ?_
    exact ⟨rfl, _, rfl, (if_pos (fun q => y1 q.1)).symm, hs, fc_fr.rf⟩
  
