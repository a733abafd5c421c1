/-! THE REFERENCE'S QUESTIONS, again -/
def sq_deadline (s : Nat → Int32) (l : Int32) : Int32 := if ¬ (0 ≤ l ∧ l < s 0) then -2000000001 else if ¬ sv s (13 + 20 * l.toNatClampNeg) = 0 then -2000000002 else match w_find (fun t => decide (w_at s l.toNatClampNeg t < hsum s l.toNatClampNeg)) 0 121 with | some t => nI t | none => -2000000004
def sq_topping (s : Nat → Int32) (l : Int32) : Int32 := if ¬ (0 ≤ l ∧ l < s 0) then -2000000001 else if ¬ sv s (13 + 20 * l.toNatClampNeg) = 0 then -2000000002 else match w_find (fun k => decide (sw s l.toNatClampNeg k < 2250)) 0 (sv s (9 + 20 * l.toNatClampNeg) - 1) with
  | none => -2000000002
  | some _ => nI (ws_sum (fun k => wb_it (sv s (10 + 20 * l.toNatClampNeg)) (sv s 8) ((w_top 24 0 (sv s (9 + 20 * l.toNatClampNeg)) (sw s l.toNatClampNeg)).2 k)) (w_top 24 0 (sv s (9 + 20 * l.toNatClampNeg)) (sw s l.toNatClampNeg)).1 / 90) - nI (w_at s l.toNatClampNeg (sv s 8))
def lsW (c : Nat → Nat) : Nat → Int32 × Nat
  | 0 => (-2000000004, 0)
  | b + 1 => if (lsW c b).2 < c b then (nI b, c b) else lsW c b
def lsC (s : Nat → Int32) (L : Nat) : Nat → Nat := fun b => w_cut (sv s (136 + 18 * b + 3 * L)) (ws_sum (sw s L) (sv s (9 + 20 * L)) / 90) (hsum s L)
def lsA (x : Int32 × Nat) (f : Int32) : Int32 := if x.1 < 0 then x.1 else if f = 0 then x.1 else nI x.2
def sq_loser (s : Nat → Int32) (l f : Int32) : Int32 := if ¬ ((0 ≤ l ∧ l < s 0) ∧ (0 ≤ f ∧ f ≤ 1)) then -2000000001 else if ¬ sv s (13 + 20 * l.toNatClampNeg) = 0 then -2000000002 else lsA (lsW (lsC s l.toNatClampNeg) (sv s 1)) f
theorem lsW_le {c : Nat → Nat} {M : Nat} (h : ∀ b, c b ≤ M) : ∀ n, (lsW c n).2 ≤ M
  | 0 => Nat.zero_le _
  | n + 1 => by
    show (if _ then _ else _ : Int32 × Nat).2 ≤ M
    split
    · exact h n
    · exact lsW_le h n
theorem w_find_one {p : Nat → Bool} {i f : Nat} (h : p i = true) : w_find p i (f + 1) = some i := if_pos h
theorem w_find_more {p : Nat → Bool} {i f : Nat} (h : ¬ p i = true) : w_find p i (f + 1) = w_find p (i + 1) f := if_neg h

set_option maxRecDepth 100000 in
set_option maxHeartbeats 4000000 in
theorem r_deadline {S : mm_S} {I : mm_I} {m : Nat} {l : Int32} (hM : mm_ref S m) (hi : Inv (I (m + 1))) : mm_ci mX8_deadline [.ref m, .int l] S I (fun q J => q = sq_deadline (I (m + 1)) l ∧ r_fr I J m) := by
  have hM0 := hM
  obtain ⟨hk, hp0, hp1, hp2, hp5, hp7, hp15, hk1, hk2, hk3, hk4, hk5, hk6⟩ := hM
  have hx : ∀ n, n < 316 → vp_in (nI n) 316 := fun n h => vp_in_nI h (by omega)
  refine mm_ci.of okX8_deadline rfl (Nat.le_of_ble_eq_true rfl) (lv := [(0, .ref m), (1, .int l)]) rfl ?_
  refine mm_aload_n dX8_deadline_0 rfl rfl ?_
  refine mm_iload_n dX8_deadline_1 rfl rfl ?_
  refine mm_Vi (N := mX8_isLot) (ci := 8) (as := [_]) dX8_deadline_2 lk_X8_81 okX8_isLot (by decide) rfl (by decide) rfl (by assumption) rfl (by decide) (r_isLot hM0) (fun r1 J1 hq => ?_)
  obtain ⟨rfl, hJ⟩ := hq
  subst J1
  refine mm_if_ne 11 dX8_deadline_5 (by decide) (fun c_5 => ?_) (fun c_5 => ?_)
  · skip
    have y1 := if_yes c_5
    obtain ⟨L, hLn, hL6, rfl, hLc⟩ := inv_l hi y1
    refine mm_aload_n dX8_deadline_11 rfl rfl ?_
    refine mm_iload_n dX8_deadline_12 rfl rfl ?_
    refine mm_Vi (N := mX8_isOpen) (ci := 8) (as := [_]) dX8_deadline_13 lk_X8_85 okX8_isOpen (by decide) rfl (by decide) rfl (by assumption) rfl (by decide) (r_isOpen hM0 hL6) (fun r3 J3 hq => ?_)
    obtain ⟨rfl, hJ⟩ := hq
    subst J3
    refine mm_if_ne 22 dX8_deadline_16 (by decide) (fun c_16 => ?_) (fun c_16 => ?_)
    · skip
      have y4 := if_yes c_16
      have y4 := (inv_open hi hL6).mp y4
      refine mm_aload_n dX8_deadline_22 rfl rfl ?_
      refine mm_iload_n dX8_deadline_23 rfl rfl ?_
      refine mm_Vv (N := mX8_loads) (ci := 8) (as := [_]) dX8_deadline_24 lk_X8_62 okX8_loads (by decide) rfl (by decide) rfl (by assumption) rfl (by decide) (inv_load hM0 hi hL6) (fun J1 hw1 => ?_)
      obtain ⟨hw1, hf1⟩ := hw1
      have hs1 := hf1.s
      have hlt := hi.2.1 L hL6
      have hok := hlt.2.1
      have hal := hlt.2.2.2.2.2.2.1.1
      refine mm_aload_n dX8_deadline_27 rfl rfl ?_
      refine mm_iload_n dX8_deadline_28 rfl rfl ?_
      refine mm_Vi (N := mX8_allHeld) (ci := 8) (as := [_]) dX8_deadline_29 lk_X8_104 okX8_allHeld (by decide) rfl (by decide) rfl (by assumption) rfl (by decide) (inv_allHeld hM0 (by rw [hs1]; exact hi) hL6) (fun r7 J7 hq => ?_)
      obtain ⟨rfl, hJ⟩ := hq
      subst J7
      rw [hs1]
      have hsp : sq_deadline (I (m + 1)) (nI L) = match w_find (fun t => decide (w_at (I (m + 1)) L t < hsum (I (m + 1)) L)) 0 121 with | some t => nI t | none => -2000000004 := by
        unfold sq_deadline
        rw [if_neg (fun q => q y1), hLc, if_neg (fun q => q y4)]
      have hwl : ∀ t, w_at (I (m + 1)) L t ≤ 300 := fun t => by
        have := ws_sum_le (w := fun k => wb_it (sv (I (m + 1)) (10 + 20 * L)) t (sw (I (m + 1)) L k)) (b := 2250) (sv (I (m + 1)) (9 + 20 * L)) (fun k _ => Nat.le_trans (wb_it_le _ _) (hok.2.2.1 k))
        have := hok.1
        unfold w_at
        omega
      have loop : ∀ (u t : Nat) (I2 : mm_I), t + u = 121 → w_find (fun t => decide (w_at (I (m + 1)) L t < hsum (I (m + 1)) L)) t u = w_find (fun t => decide (w_at (I (m + 1)) L t < hsum (I (m + 1)) L)) 0 121 → rw_at I2 m (sv (I (m + 1)) (9 + 20 * L)) (fun k => wb_it (sv (I (m + 1)) (10 + 20 * L)) (t - 1) (sw (I (m + 1)) L k)) → r_fr I I2 m → mm_Gi mX8_deadline (fun q J => q = sq_deadline (I (m + 1)) (nI L) ∧ r_fr I J m) 35 [(3, .int (nI t)), (2, .int (nI (hsum (I (m + 1)) L))), (0, .ref m), (1, .int (nI L))] [] S S I2 := by
        intro u
        induction u with
        | zero =>
          intro t I2 htu hf hw g2
          have ht : t = 121 := by omega
          subst ht
          refine mm_iload_n dX8_deadline_35 rfl rfl ?_
          refine mm_bipush 120 dX8_deadline_36 rfl ?_
          refine mm_icmp_gt 65 dX8_deadline_38 (by decide) (fun c_38 => ?_) (fun c_38 => absurd (nI_lt (a := 120) (by omega) (by omega)) c_38)
          refine mm_iload_n dX8_deadline_65 rfl rfl ?_
          refine mm_bipush 120 dX8_deadline_66 rfl ?_
          refine mm_icmp_le 76 dX8_deadline_68 (by decide) (fun c_68 => absurd c_68 (nI_ge (a := 120) (by omega) (by omega))) (fun c_68 => ?_)
          refine mm_ldc dX8_deadline_71 ct_X8_57 ?_
          refine mm_goto 77 dX8_deadline_73 (by decide) ?_
          refine mm_iret dX8_deadline_77 rfl ?_
          exact ⟨rfl, _, rfl, by rw [hsp, ← hf]; rfl, g2⟩
        | succ u ih =>
          intro t I2 htu hf hw g2
          have g1 := g2.s
          rcases t with _ | t
          · skip
            refine mm_iload_n dX8_deadline_35 rfl rfl ?_
            refine mm_bipush 120 dX8_deadline_36 rfl ?_
            refine mm_icmp_gt 65 dX8_deadline_38 (by decide) (fun c_38 => absurd c_38 (nI_nlt (a := 120) (by omega) (by omega))) (fun c_38 => ?_)
            refine mm_aload_n dX8_deadline_41 rfl rfl ?_
            refine mm_iload_n dX8_deadline_42 rfl rfl ?_
            refine mm_iload_n dX8_deadline_43 rfl rfl ?_
            refine mm_if_ne 51 dX8_deadline_44 (by decide) (fun c_44 => absurd rfl c_44) (fun c_44 => ?_)
            refine mm_iconst 0 dX8_deadline_47 rfl ?_
            refine mm_goto 52 dX8_deadline_48 (by decide) ?_
            refine mm_Vi (N := mX8_casesIn) (ci := 8) (as := [_, _]) dX8_deadline_52 lk_X8_66 okX8_casesIn (by decide) rfl (by decide) rfl (by assumption) rfl (by decide) (inv_casesIn (t := 0) hM0 (by rw [g1]; exact hi) hL6 (by omega) (by rw [g1]; exact hw)) (fun r2 J2 hq => ?_)
            obtain ⟨rfl, hw2, hf2⟩ := hq
            rw [g1]
            rw [g1] at hw2
            have hwa := hwl (0)
            refine mm_iload_n dX8_deadline_55 rfl rfl ?_
            refine mm_icmp_lt 65 dX8_deadline_56 (by decide) (fun c_56 => ?_) (fun c_56 => ?_)
            · skip
              have hlt3 : w_at (I (m + 1)) L (0) < hsum (I (m + 1)) L := Nat.not_le.mp fun q => nI_nlt q (by omega) c_56
              rw [w_find_one (p := (fun t => decide (w_at (I (m + 1)) L t < hsum (I (m + 1)) L))) (decide_eq_true hlt3)] at hf
              refine mm_iload_n dX8_deadline_65 rfl rfl ?_
              refine mm_bipush 120 dX8_deadline_66 rfl ?_
              refine mm_icmp_le 76 dX8_deadline_68 (by decide) (fun c_68 => ?_) (fun c_68 => absurd (nI_le (b := 120) (by omega) (by omega)) c_68)
              refine mm_iload_n dX8_deadline_76 rfl rfl ?_
              refine mm_iret dX8_deadline_77 rfl ?_
              exact ⟨rfl, _, rfl, by rw [hsp, ← hf], g2.tr hf2⟩
            · skip
              have hge3 : ¬ w_at (I (m + 1)) L (0) < hsum (I (m + 1)) L := fun q => c_56 (nI_lt q (by omega))
              rw [w_find_more (p := (fun t => decide (w_at (I (m + 1)) L t < hsum (I (m + 1)) L))) (fun q => hge3 (of_decide_eq_true q))] at hf
              refine mm_iinc 1 dX8_deadline_59 rfl rfl (Nat.le_of_ble_eq_true rfl) ?_
              rw [nI_1]
              refine mm_goto 35 dX8_deadline_62 (by decide) ?_
              exact mm_G.at (ih (0 + 1) _ (by omega) hf hw2 (g2.tr hf2)) (mm_s1 rfl (mm_s1 rfl (mm_s1 rfl (mm_s1 rfl mm_s0))))
          · skip
            refine mm_iload_n dX8_deadline_35 rfl rfl ?_
            refine mm_bipush 120 dX8_deadline_36 rfl ?_
            refine mm_icmp_gt 65 dX8_deadline_38 (by decide) (fun c_38 => absurd c_38 (nI_nlt (a := 120) (by omega) (by omega))) (fun c_38 => ?_)
            refine mm_aload_n dX8_deadline_41 rfl rfl ?_
            refine mm_iload_n dX8_deadline_42 rfl rfl ?_
            refine mm_iload_n dX8_deadline_43 rfl rfl ?_
            refine mm_if_ne 51 dX8_deadline_44 (by decide) (fun c_44 => ?_) (fun c_44 => absurd c_44 (nI_ne0 (by omega) (by omega)))
            refine mm_iconst 1 dX8_deadline_51 rfl ?_
            refine mm_Vi (N := mX8_casesIn) (ci := 8) (as := [_, _]) dX8_deadline_52 lk_X8_66 okX8_casesIn (by decide) rfl (by decide) rfl (by assumption) rfl (by decide) (r_casesIn (t := 1) hM0 hL6 hw hok.1 hok.2.1 (fun k _ => Nat.le_trans (wb_it_le _ _) (hok.2.2.1 k)) (fun k hk => wb_it_pos hok.2.1 _ _ (hok.2.2.2.1 k hk)) (by rw [g1]; exact inv_f hlt 1 (by omega)) (by omega)) (fun r2 J2 hq => ?_)
            obtain ⟨rfl, hw2, hf2⟩ := hq
            have hfn : (fun k => wb_it (sv (I (m + 1)) (10 + 20 * L)) 1 (wb_it (sv (I (m + 1)) (10 + 20 * L)) (t + 1 - 1) (sw (I (m + 1)) L k))) = fun k => wb_it (sv (I (m + 1)) (10 + 20 * L)) (t + 1) (sw (I (m + 1)) L k) := by
              funext k
              exact (wb_it_add t 1 _).symm
            have hw2 : rw_at J2 m _ (fun k => wb_it (sv (I (m + 1)) (10 + 20 * L)) 1 (wb_it (sv (I (m + 1)) (10 + 20 * L)) (t + 1 - 1) (sw (I (m + 1)) L k))) := hw2
            rw [hfn] at hw2
            have hq2 : nI (ws_sum (fun k => wb_it (sv (I (m + 1)) (10 + 20 * L)) 1 (wb_it (sv (I (m + 1)) (10 + 20 * L)) (t + 1 - 1) (sw (I (m + 1)) L k))) (sv (I (m + 1)) (9 + 20 * L)) / 90) = nI (w_at (I (m + 1)) L (t + 1)) := by rw [hfn]; rfl
            rw [hq2]
            have hwa := hwl (t + 1)
            refine mm_iload_n dX8_deadline_55 rfl rfl ?_
            refine mm_icmp_lt 65 dX8_deadline_56 (by decide) (fun c_56 => ?_) (fun c_56 => ?_)
            · skip
              have hlt3 : w_at (I (m + 1)) L (t + 1) < hsum (I (m + 1)) L := Nat.not_le.mp fun q => nI_nlt q (by omega) c_56
              rw [w_find_one (p := (fun t => decide (w_at (I (m + 1)) L t < hsum (I (m + 1)) L))) (decide_eq_true hlt3)] at hf
              refine mm_iload_n dX8_deadline_65 rfl rfl ?_
              refine mm_bipush 120 dX8_deadline_66 rfl ?_
              refine mm_icmp_le 76 dX8_deadline_68 (by decide) (fun c_68 => ?_) (fun c_68 => absurd (nI_le (b := 120) (by omega) (by omega)) c_68)
              refine mm_iload_n dX8_deadline_76 rfl rfl ?_
              refine mm_iret dX8_deadline_77 rfl ?_
              exact ⟨rfl, _, rfl, by rw [hsp, ← hf], g2.tr hf2⟩
            · skip
              have hge3 : ¬ w_at (I (m + 1)) L (t + 1) < hsum (I (m + 1)) L := fun q => c_56 (nI_lt q (by omega))
              rw [w_find_more (p := (fun t => decide (w_at (I (m + 1)) L t < hsum (I (m + 1)) L))) (fun q => hge3 (of_decide_eq_true q))] at hf
              refine mm_iinc 1 dX8_deadline_59 rfl rfl (Nat.le_of_ble_eq_true rfl) ?_
              rw [nI_1]
              refine mm_goto 35 dX8_deadline_62 (by decide) ?_
              exact mm_G.at (ih (t + 1 + 1) _ (by omega) hf hw2 (g2.tr hf2)) (mm_s1 rfl (mm_s1 rfl (mm_s1 rfl (mm_s1 rfl mm_s0))))
      refine mm_istore_n dX8_deadline_32 rfl (Nat.le_of_ble_eq_true rfl) ?_
      refine mm_iconst 0 dX8_deadline_33 rfl ?_
      refine mm_istore_n dX8_deadline_34 rfl (Nat.le_of_ble_eq_true rfl) ?_
      exact mm_G.at (loop 121 0 J1 (by omega) rfl hw1 hf1) (mm_s1 rfl (mm_s1 rfl (mm_s1 rfl (mm_s1 rfl mm_s0))))
    · skip
      have n4 := if_no c_16
      have n4 : ¬ sv (I (m + 1)) (13 + 20 * L) = 0 := fun q => n4 ((inv_open hi hL6).mpr q)
      refine mm_ldc dX8_deadline_19 ct_X8_91 ?_
      refine mm_iret dX8_deadline_21 rfl ?_
      exact ⟨rfl, _, rfl, by unfold sq_deadline; rw [if_neg (fun q => q y1), hLc, if_pos n4], r_fr.rf⟩
  · skip
    have n1 := if_no c_5
    refine mm_ldc dX8_deadline_8 ct_X8_76 ?_
    refine mm_iret dX8_deadline_10 rfl ?_
    first
      | exact ⟨rfl, _, rfl, (if_pos (fun q => n1 q)).symm, r_fr.rf⟩
set_option maxRecDepth 100000 in
set_option maxHeartbeats 4000000 in
theorem r_topping {S : mm_S} {I : mm_I} {m : Nat} {l : Int32} (hM : mm_ref S m) (hi : Inv (I (m + 1))) : mm_ci mX8_topping [.ref m, .int l] S I (fun q J => q = sq_topping (I (m + 1)) l ∧ r_fr I J m) := by
  have hM0 := hM
  obtain ⟨hk, hp0, hp1, hp2, hp5, hp7, hp15, hk1, hk2, hk3, hk4, hk5, hk6⟩ := hM
  have hx : ∀ n, n < 316 → vp_in (nI n) 316 := fun n h => vp_in_nI h (by omega)
  refine mm_ci.of okX8_topping rfl (Nat.le_of_ble_eq_true rfl) (lv := [(0, .ref m), (1, .int l)]) rfl ?_
  refine mm_aload_n dX8_topping_0 rfl rfl ?_
  refine mm_iload_n dX8_topping_1 rfl rfl ?_
  refine mm_Vi (N := mX8_isLot) (ci := 8) (as := [_]) dX8_topping_2 lk_X8_81 okX8_isLot (by decide) rfl (by decide) rfl (by assumption) rfl (by decide) (r_isLot hM0) (fun r1 J1 hq => ?_)
  obtain ⟨rfl, hJ⟩ := hq
  subst J1
  refine mm_if_ne 11 dX8_topping_5 (by decide) (fun c_5 => ?_) (fun c_5 => ?_)
  · skip
    have y1 := if_yes c_5
    obtain ⟨L, hLn, hL6, rfl, hLc⟩ := inv_l hi y1
    have hlt := hi.2.1 L hL6
    have hok := hlt.2.1
    have hsp0 : sq_topping (I (m + 1)) (nI L) = if ¬ sv (I (m + 1)) (13 + 20 * L) = 0 then -2000000002 else match w_find (fun k => decide (sw (I (m + 1)) L k < 2250)) 0 (sv (I (m + 1)) (9 + 20 * L) - 1) with
      | none => -2000000002
      | some _ => nI (ws_sum (fun k => wb_it (sv (I (m + 1)) (10 + 20 * L)) (sv (I (m + 1)) 8) ((w_top 24 0 (sv (I (m + 1)) (9 + 20 * L)) (sw (I (m + 1)) L)).2 k)) (w_top 24 0 (sv (I (m + 1)) (9 + 20 * L)) (sw (I (m + 1)) L)).1 / 90) - nI (w_at (I (m + 1)) L (sv (I (m + 1)) 8)) := by
      unfold sq_topping
      rw [if_neg (fun q => q y1), hLc]
    refine mm_aload_n dX8_topping_11 rfl rfl ?_
    refine mm_iload_n dX8_topping_12 rfl rfl ?_
    refine mm_Vv (N := mX8_loads) (ci := 8) (as := [_]) dX8_topping_13 lk_X8_62 okX8_loads (by decide) rfl (by decide) rfl (by assumption) rfl (by decide) (inv_load hM0 hi hL6) (fun J1 hw1 => ?_)
    obtain ⟨hw1, hf1⟩ := hw1
    have hs1 := hf1.s
    refine mm_aload_n dX8_topping_16 rfl rfl ?_
    refine mm_iload_n dX8_topping_17 rfl rfl ?_
    refine mm_Vi (N := mX8_isOpen) (ci := 8) (as := [_]) dX8_topping_18 lk_X8_85 okX8_isOpen (by decide) rfl (by decide) rfl (by assumption) rfl (by decide) (r_isOpen hM0 hL6) (fun r3 J3 hq => ?_)
    obtain ⟨rfl, hJ⟩ := hq
    subst J3
    rw [hs1]
    refine mm_if_eq 31 dX8_topping_21 (by decide) (fun c_21 => ?_) (fun c_21 => ?_)
    · skip
      have n4 := if_no c_21
      have n4 : ¬ sv (I (m + 1)) (13 + 20 * L) = 0 := fun q => n4 ((inv_open hi hL6).mpr q)
      refine mm_ldc dX8_topping_31 ct_X8_91 ?_
      refine mm_iret dX8_topping_33 rfl ?_
      exact ⟨rfl, _, rfl, by rw [hsp0, if_pos n4], hf1⟩
    · skip
      have y4 := if_yes c_21
      have y4 := (inv_open hi hL6).mp y4
      refine mm_aload_n dX8_topping_24 rfl rfl ?_
      refine mm_Vi (N := mX8_needy) (ci := 8) (as := []) dX8_topping_25 lk_X8_69 okX8_needy (by decide) rfl (by decide) rfl (by assumption) rfl (by decide) (r_needy hM0 hw1 hok.1 (fun k _ => hok.2.2.1 k)) (fun r4 J2 hq => ?_)
      obtain ⟨rfl, hJ⟩ := hq
      subst J2
      rw [if_neg (fun q => q y4)] at hsp0
      cases hnd : w_find (fun k => decide (sw (I (m + 1)) L k < 2250)) 0 (sv (I (m + 1)) (9 + 20 * L) - 1) with
      | none =>
        rw [hnd] at hsp0
        refine mm_if_ge 34 dX8_topping_28 (by decide) (fun c_28 => absurd c_28 (by decide)) (fun c_28 => ?_)
        refine mm_ldc dX8_topping_31 ct_X8_91 ?_
        refine mm_iret dX8_topping_33 rfl ?_
        exact ⟨rfl, _, rfl, hsp0.symm, hf1⟩
      | some b =>
        rw [hnd] at hsp0
        obtain ⟨k1, k2, k3, k4⟩ := w_find_some hnd
        have hb12 : b < 12 := by have := hok.1; omega
        refine mm_if_ge 34 dX8_topping_28 (by decide) (fun c_28 => ?_) (fun c_28 => absurd (nI_pos' (by omega)) c_28)
        refine mm_aload_n dX8_topping_34 rfl rfl ?_
        refine mm_iload_n dX8_topping_35 rfl rfl ?_
        refine mm_aload_n dX8_topping_36 rfl rfl ?_
        refine mm_getR dX8_topping_37 fl_X8_7 rfl (by assumption) (by assumption) ?_
        refine mm_bipush 8 dX8_topping_40 rfl ?_
        refine mm_iald dX8_topping_42 (by assumption) (hx 8 (by omega)) ?_
        refine mm_tope (y := nI (sv (I (m + 1)) 8)) (by rw [hs1]; exact hi.1.2.2.2.2.2.1) ?_
        refine mm_Vi (N := mX8_casesIn) (ci := 8) (as := [_, _]) dX8_topping_43 lk_X8_66 okX8_casesIn (by decide) rfl (by decide) rfl (by assumption) rfl (by decide) (inv_casesIn hM0 (by rw [hs1]; exact hi) hL6 (by have := hi.1.2.2.2.2.2.2; omega) (by rw [hs1]; exact hw1)) (fun r5 J2 hq => ?_)
        obtain ⟨rfl, hw2, hf2⟩ := hq
        rw [hs1]
        have hf3 := hf1.tr hf2
        have hs3 := hf3.s
        refine mm_istore_n dX8_topping_46 rfl (Nat.le_of_ble_eq_true rfl) ?_
        refine mm_aload_n dX8_topping_47 rfl rfl ?_
        refine mm_iload_n dX8_topping_48 rfl rfl ?_
        refine mm_Vv (N := mX8_loads) (ci := 8) (as := [_]) dX8_topping_49 lk_X8_62 okX8_loads (by decide) rfl (by decide) rfl (by assumption) rfl (by decide) (inv_load hM0 (by rw [hs3]; exact hi) hL6) (fun J3 hw3 => ?_)
        obtain ⟨hw3, hf4⟩ := hw3
        rw [hs3] at hw3
        have hf5 := hf3.tr hf4
        refine mm_aload_n dX8_topping_52 rfl rfl ?_
        refine mm_Vv (N := mX8_tops) (ci := 8) (as := []) dX8_topping_53 lk_X8_98 okX8_tops (by decide) rfl (by decide) rfl (by assumption) rfl (by decide) (r_tops hM0 hw3 hok) (fun J4 hq => ?_)
        obtain ⟨j1, j2, j3⟩ := hq
        have hf6 := hf5.tr j3
        have hs6 := hf6.s
        refine mm_aload_n dX8_topping_56 rfl rfl ?_
        refine mm_iload_n dX8_topping_57 rfl rfl ?_
        refine mm_aload_n dX8_topping_58 rfl rfl ?_
        refine mm_getR dX8_topping_59 fl_X8_7 rfl (by assumption) (by assumption) ?_
        refine mm_bipush 8 dX8_topping_62 rfl ?_
        refine mm_iald dX8_topping_64 (by assumption) (hx 8 (by omega)) ?_
        refine mm_tope (y := nI (sv (I (m + 1)) 8)) (by rw [hs6]; exact hi.1.2.2.2.2.2.1) ?_
        refine mm_Vi (N := mX8_casesIn) (ci := 8) (as := [_, _]) dX8_topping_65 lk_X8_66 okX8_casesIn (by decide) rfl (by decide) rfl (by assumption) rfl (by decide) (r_casesIn hM0 hL6 j1 j2.1 hok.2.1 (fun k _ => j2.2.2.1 k) j2.2.2.2.1 (by rw [hs6]; exact inv_f hlt 1 (by omega)) (by have := hi.1.2.2.2.2.2.2; omega)) (fun r5 J5 hq => ?_)
        obtain ⟨rfl, hw4, hf7⟩ := hq
        refine mm_iload_n dX8_topping_68 rfl rfl ?_
        refine mm_isub dX8_topping_69 ?_
        refine mm_iret dX8_topping_70 rfl ?_
        exact ⟨rfl, _, rfl, hsp0.symm, hf6.tr hf7⟩
      
  · skip
    have n1 := if_no c_5
    refine mm_ldc dX8_topping_8 ct_X8_76 ?_
    refine mm_iret dX8_topping_10 rfl ?_
    first
      | exact ⟨rfl, _, rfl, (if_pos (fun q => n1 q)).symm, r_fr.rf⟩
set_option maxRecDepth 100000 in
set_option maxHeartbeats 4000000 in
theorem r_loser {S : mm_S} {I : mm_I} {m : Nat} {l f : Int32} (hM : mm_ref S m) (hi : Inv (I (m + 1))) : mm_ci mX8_loser [.ref m, .int l, .int f] S I (fun q J => q = sq_loser (I (m + 1)) l f ∧ r_fr I J m) := by
  have hM0 := hM
  obtain ⟨hk, hp0, hp1, hp2, hp5, hp7, hp15, hk1, hk2, hk3, hk4, hk5, hk6⟩ := hM
  have hx : ∀ n, n < 316 → vp_in (nI n) 316 := fun n h => vp_in_nI h (by omega)
  refine mm_ci.of okX8_loser rfl (Nat.le_of_ble_eq_true rfl) (lv := [(0, .ref m), (1, .int l), (2, .int f)]) rfl ?_
  refine mm_aload_n dX8_loser_0 rfl rfl ?_
  refine mm_iload_n dX8_loser_1 rfl rfl ?_
  refine mm_Vi (N := mX8_isLot) (ci := 8) (as := [_]) dX8_loser_2 lk_X8_81 okX8_isLot (by decide) rfl (by decide) rfl (by assumption) rfl (by decide) (r_isLot hM0) (fun r1 J1 hq => ?_)
  obtain ⟨rfl, hJ⟩ := hq
  subst J1
  refine mm_if_eq 17 dX8_loser_5 (by decide) (fun c_5 => ?_) (fun c_5 => ?_)
  · skip
    have n1 := if_no c_5
    refine mm_ldc dX8_loser_17 ct_X8_76 ?_
    refine mm_iret dX8_loser_19 rfl ?_
    first
      | exact ⟨rfl, _, rfl, (if_pos (fun q => n1 q.1)).symm, r_fr.rf⟩
      | exact ⟨rfl, _, rfl, (if_pos (fun q => n2 q.2)).symm, r_fr.rf⟩
  · skip
    have y1 := if_yes c_5
    obtain ⟨L, hLn, hL6, rfl, hLc⟩ := inv_l hi y1
    refine mm_iload_n dX8_loser_8 rfl rfl ?_
    refine mm_iconst 0 dX8_loser_9 rfl ?_
    refine mm_iconst 1 dX8_loser_10 rfl ?_
    refine mm_Si (N := mX8_in) (as := [_, _, _]) dX8_loser_11 lk_X8_72 okX8_in (by decide) rfl rfl (by decide) r_in (fun r1 J1 hq => ?_)
    obtain ⟨rfl, hJ⟩ := hq
    subst J1
    refine mm_if_ne 20 dX8_loser_14 (by decide) (fun c_14 => ?_) (fun c_14 => ?_)
    · skip
      have y2 := if_yes c_14
      have hsp0 : sq_loser (I (m + 1)) (nI L) f = if ¬ sv (I (m + 1)) (13 + 20 * L) = 0 then -2000000002 else lsA (lsW (lsC (I (m + 1)) L) (sv (I (m + 1)) 1)) f := by
        unfold sq_loser
        rw [if_neg (fun q => q ⟨y1, y2⟩), hLc]
      refine mm_aload_n dX8_loser_20 rfl rfl ?_
      refine mm_iload_n dX8_loser_21 rfl rfl ?_
      refine mm_Vi (N := mX8_isOpen) (ci := 8) (as := [_]) dX8_loser_22 lk_X8_85 okX8_isOpen (by decide) rfl (by decide) rfl (by assumption) rfl (by decide) (r_isOpen hM0 hL6) (fun r3 J3 hq => ?_)
      obtain ⟨rfl, hJ⟩ := hq
      subst J3
      refine mm_if_ne 31 dX8_loser_25 (by decide) (fun c_25 => ?_) (fun c_25 => ?_)
      · skip
        have y4 := if_yes c_25
        have y4 := (inv_open hi hL6).mp y4
        refine mm_aload_n dX8_loser_31 rfl rfl ?_
        refine mm_iload_n dX8_loser_32 rfl rfl ?_
        refine mm_Vv (N := mX8_loads) (ci := 8) (as := [_]) dX8_loser_33 lk_X8_62 okX8_loads (by decide) rfl (by decide) rfl (by assumption) rfl (by decide) (inv_load hM0 hi hL6) (fun J1 hw1 => ?_)
        obtain ⟨hw1, hf1⟩ := hw1
        have hs1 := hf1.s
        have hlt := hi.2.1 L hL6
        have hok := hlt.2.1
        have hal := hlt.2.2.2.2.2.2.1.1
        have hW := inv_W hi hL6
        have hsp := hsp0
        rw [if_neg (fun q => q y4)] at hsp
        have hnb := hi.1.2.1
        have e1 : J1 (m + 1) 1 = nI (sv (I (m + 1)) 1) := by rw [hs1]; exact hnb.1
        have loop : ∀ (t b : Nat), b + t = sv (I (m + 1)) 1 → mm_Gi mX8_loser (fun q J => q = sq_loser (I (m + 1)) (nI L) f ∧ r_fr I J m) 45 [(5, .int (nI b)), (4, .int (nI (lsW (lsC (I (m + 1)) L) b).2)), (3, .int (lsW (lsC (I (m + 1)) L) b).1), (0, .ref m), (1, .int (nI L)), (2, .int f)] [] S S J1 := by
          intro t
          induction t with
          | zero =>
            intro b hbt
            have hb : b = sv (I (m + 1)) 1 := by omega
            refine mm_iload dX8_loser_45 rfl ?_
            refine mm_aload_n dX8_loser_47 rfl rfl ?_
            refine mm_getR dX8_loser_48 fl_X8_7 rfl (by assumption) (by assumption) ?_
            refine mm_iconst 1 dX8_loser_51 rfl ?_
            refine mm_iald dX8_loser_52 (by assumption) (hx 1 (by omega)) ?_
            refine mm_tope (y := nI (sv (I (m + 1)) 1)) e1 ?_
            refine mm_icmp_ge 113 dX8_loser_53 (by decide) (fun c_53 => ?_) (fun c_53 => absurd (nI_le (by omega) (by omega)) c_53)
            refine mm_iload_n dX8_loser_113 rfl rfl ?_
            refine mm_if_lt 121 dX8_loser_114 (by decide) (fun c_114 => ?_) (fun c_114 => ?_)
            · skip
              refine mm_iload_n dX8_loser_121 rfl rfl ?_
              refine mm_goto 127 dX8_loser_122 (by decide) ?_
              refine mm_iret dX8_loser_127 rfl ?_
              refine ⟨rfl, _, rfl, ?_, hf1⟩
              rw [hsp, ← hb]
              unfold lsA
              first
                | (rw [if_pos c_114]; done)
                | (rw [if_neg c_114, if_neg c_118]; done)
                | (rw [if_neg c_114, if_pos c_118]; done)
                | (rw [if_neg c_114, if_pos (Classical.not_not.mp c_118)]; done)
            · skip
              refine mm_iload_n dX8_loser_117 rfl rfl ?_
              refine mm_if_ne 125 dX8_loser_118 (by decide) (fun c_118 => ?_) (fun c_118 => ?_)
              · skip
                refine mm_iload dX8_loser_125 rfl ?_
                refine mm_iret dX8_loser_127 rfl ?_
                refine ⟨rfl, _, rfl, ?_, hf1⟩
                rw [hsp, ← hb]
                unfold lsA
                first
                  | (rw [if_pos c_114]; done)
                  | (rw [if_neg c_114, if_neg c_118]; done)
                  | (rw [if_neg c_114, if_pos c_118]; done)
                  | (rw [if_neg c_114, if_pos (Classical.not_not.mp c_118)]; done)
              · skip
                refine mm_iload_n dX8_loser_121 rfl rfl ?_
                refine mm_goto 127 dX8_loser_122 (by decide) ?_
                refine mm_iret dX8_loser_127 rfl ?_
                refine ⟨rfl, _, rfl, ?_, hf1⟩
                rw [hsp, ← hb]
                unfold lsA
                first
                  | (rw [if_pos c_114]; done)
                  | (rw [if_neg c_114, if_neg c_118]; done)
                  | (rw [if_neg c_114, if_pos c_118]; done)
                  | (rw [if_neg c_114, if_pos (Classical.not_not.mp c_118)]; done)
          | succ t ih =>
            intro b hbt
            have hb6 : b < 6 := by omega
            have eh := inv_h hi hL6 hb6
            have hm2 : (lsW (lsC (I (m + 1)) L) b).2 ≤ 300 := by
              have : ∀ n, n ≤ 6 → (lsW (lsC (I (m + 1)) L) n).2 ≤ 300 := by
                intro n
                induction n with
                | zero => exact fun _ => Nat.zero_le _
                | succ n ihn =>
                  intro hn
                  show (if _ then _ else _ : Int32 × Nat).2 ≤ 300
                  split
                  · exact Nat.le_trans w_cut_le (inv_h hi hL6 (by omega)).2.1
                  · exact ihn (by omega)
              exact this b (by omega)
            have hc2 : (lsC (I (m + 1)) L) b ≤ 300 := Nat.le_trans w_cut_le eh.2.1
            refine mm_iload dX8_loser_45 rfl ?_
            refine mm_aload_n dX8_loser_47 rfl rfl ?_
            refine mm_getR dX8_loser_48 fl_X8_7 rfl (by assumption) (by assumption) ?_
            refine mm_iconst 1 dX8_loser_51 rfl ?_
            refine mm_iald dX8_loser_52 (by assumption) (hx 1 (by omega)) ?_
            refine mm_tope (y := nI (sv (I (m + 1)) 1)) e1 ?_
            refine mm_icmp_ge 113 dX8_loser_53 (by decide) (fun c_53 => absurd c_53 (nI_ge (by omega) (by omega))) (fun c_53 => ?_)
            refine mm_aload_n dX8_loser_56 rfl rfl ?_
            refine mm_iload dX8_loser_57 rfl ?_
            refine mm_iload_n dX8_loser_59 rfl rfl ?_
            refine mm_aload_n dX8_loser_60 rfl rfl ?_
            refine mm_Vi (N := mX8_all) (ci := 8) (as := []) dX8_loser_61 lk_X8_58 okX8_all (by decide) rfl (by decide) rfl (by assumption) rfl (by first | decide | (simp [Value.category])) (r_all hM0 hw1 hok.1) (fun r5 J5 hq => ?_)
            obtain ⟨rfl, hJ⟩ := hq
            subst J5
            refine mm_bipush 90 dX8_loser_64 rfl ?_
            refine mm_idiv dX8_loser_66 (by decide) ?_
            refine mm_tope (y := nI (ws_sum (sw (I (m + 1)) L) (sv (I (m + 1)) (9 + 20 * L)) / 90)) (pk_div (d := 90) (by omega) (by omega) (by omega)) ?_
            refine mm_aload_n dX8_loser_67 rfl rfl ?_
            refine mm_iload_n dX8_loser_68 rfl rfl ?_
            refine mm_Vi (N := mX8_allHeld) (ci := 8) (as := [_]) dX8_loser_69 lk_X8_104 okX8_allHeld (by decide) rfl (by decide) rfl (by assumption) rfl (by first | decide | (simp [Value.category])) (inv_allHeld hM0 (by rw [hs1]; exact hi) hL6) (fun r7 J7 hq => ?_)
            obtain ⟨rfl, hJ⟩ := hq
            subst J7
            rw [hs1]
            refine mm_Vi (N := mX8_wouldCut) (ci := 8) (as := [_, _, _, _]) dX8_loser_72 lk_X8_107 okX8_wouldCut (by decide) rfl (by decide) rfl (by assumption) rfl (by decide) (r_wouldCut hM0 hb6 hL6 (by rw [hs1]; exact eh.1) (by omega) (by omega) (by omega)) (fun r8 J8 hq => ?_)
            obtain ⟨rfl, hJ⟩ := hq
            subst J8
            have hcv : w_cut (sv (I (m + 1)) (136 + 18 * b + 3 * L)) (ws_sum (sw (I (m + 1)) L) (sv (I (m + 1)) (9 + 20 * L)) / 90) (hsum (I (m + 1)) L) = lsC (I (m + 1)) L b := rfl
            rw [hcv]
            refine mm_istore dX8_loser_75 (Nat.le_of_ble_eq_true rfl) ?_
            refine mm_iload dX8_loser_77 rfl ?_
            refine mm_iload dX8_loser_79 rfl ?_
            refine mm_icmp_le 89 dX8_loser_81 (by decide) (fun c_81 => ?_) (fun c_81 => ?_)
            · skip
              have hle : ¬ (lsW (lsC (I (m + 1)) L) b).2 < (lsC (I (m + 1)) L) b := fun q => absurd c_81 (nI_ge q (by omega))
              have hst : lsW (lsC (I (m + 1)) L) (b + 1) = lsW (lsC (I (m + 1)) L) b := if_neg hle
              refine mm_iload_n dX8_loser_89 rfl rfl ?_
              refine mm_istore_n dX8_loser_90 rfl (Nat.le_of_ble_eq_true rfl) ?_
              refine mm_iload dX8_loser_91 rfl ?_
              refine mm_iload dX8_loser_93 rfl ?_
              refine mm_icmp_le 103 dX8_loser_95 (by decide) (fun c_95 => ?_) (fun c_95 => ?_)
              · skip
                refine mm_iload dX8_loser_103 rfl ?_
                refine mm_istore dX8_loser_105 (Nat.le_of_ble_eq_true rfl) ?_
                refine mm_iinc 1 dX8_loser_107 rfl rfl (Nat.le_of_ble_eq_true rfl) ?_
                rw [nI_1]
                refine mm_goto 45 dX8_loser_110 (by decide) ?_
                have ih2 := ih (b + 1) (by omega)
                rw [hst] at ih2
                first
                  | exact absurd c_81 c_95
                  | exact absurd c_95 c_81
                  | exact mm_G.at (ih2) (mm_s1 rfl (mm_s1 rfl (mm_s1 rfl (mm_s1 rfl (mm_s1 rfl (mm_s1 rfl mm_s0))))))
              · skip
                refine mm_iload dX8_loser_98 rfl ?_
                refine mm_goto 105 dX8_loser_100 (by decide) ?_
                refine mm_istore dX8_loser_105 (Nat.le_of_ble_eq_true rfl) ?_
                refine mm_iinc 1 dX8_loser_107 rfl rfl (Nat.le_of_ble_eq_true rfl) ?_
                rw [nI_1]
                refine mm_goto 45 dX8_loser_110 (by decide) ?_
                have ih2 := ih (b + 1) (by omega)
                rw [hst] at ih2
                first
                  | exact absurd c_81 c_95
                  | exact absurd c_95 c_81
                  | exact mm_G.at (ih2) (mm_s1 rfl (mm_s1 rfl (mm_s1 rfl (mm_s1 rfl (mm_s1 rfl (mm_s1 rfl mm_s0))))))
            · skip
              have hgt : (lsW (lsC (I (m + 1)) L) b).2 < (lsC (I (m + 1)) L) b := Nat.not_le.mp fun q => c_81 (nI_le q (by omega))
              have hst : lsW (lsC (I (m + 1)) L) (b + 1) = (nI b, (lsC (I (m + 1)) L) b) := if_pos hgt
              refine mm_iload dX8_loser_84 rfl ?_
              refine mm_goto 90 dX8_loser_86 (by decide) ?_
              refine mm_istore_n dX8_loser_90 rfl (Nat.le_of_ble_eq_true rfl) ?_
              refine mm_iload dX8_loser_91 rfl ?_
              refine mm_iload dX8_loser_93 rfl ?_
              refine mm_icmp_le 103 dX8_loser_95 (by decide) (fun c_95 => ?_) (fun c_95 => ?_)
              · skip
                refine mm_iload dX8_loser_103 rfl ?_
                refine mm_istore dX8_loser_105 (Nat.le_of_ble_eq_true rfl) ?_
                refine mm_iinc 1 dX8_loser_107 rfl rfl (Nat.le_of_ble_eq_true rfl) ?_
                rw [nI_1]
                refine mm_goto 45 dX8_loser_110 (by decide) ?_
                have ih2 := ih (b + 1) (by omega)
                rw [hst] at ih2
                first
                  | exact absurd c_81 c_95
                  | exact absurd c_95 c_81
                  | exact mm_G.at (ih2) (mm_s1 rfl (mm_s1 rfl (mm_s1 rfl (mm_s1 rfl (mm_s1 rfl (mm_s1 rfl mm_s0))))))
              · skip
                refine mm_iload dX8_loser_98 rfl ?_
                refine mm_goto 105 dX8_loser_100 (by decide) ?_
                refine mm_istore dX8_loser_105 (Nat.le_of_ble_eq_true rfl) ?_
                refine mm_iinc 1 dX8_loser_107 rfl rfl (Nat.le_of_ble_eq_true rfl) ?_
                rw [nI_1]
                refine mm_goto 45 dX8_loser_110 (by decide) ?_
                have ih2 := ih (b + 1) (by omega)
                rw [hst] at ih2
                first
                  | exact absurd c_81 c_95
                  | exact absurd c_95 c_81
                  | exact mm_G.at (ih2) (mm_s1 rfl (mm_s1 rfl (mm_s1 rfl (mm_s1 rfl (mm_s1 rfl (mm_s1 rfl mm_s0))))))
        refine mm_ldc dX8_loser_36 ct_X8_57 ?_
        refine mm_istore_n dX8_loser_38 rfl (Nat.le_of_ble_eq_true rfl) ?_
        refine mm_iconst 0 dX8_loser_39 rfl ?_
        refine mm_istore dX8_loser_40 (Nat.le_of_ble_eq_true rfl) ?_
        refine mm_iconst 0 dX8_loser_42 rfl ?_
        refine mm_istore dX8_loser_43 (Nat.le_of_ble_eq_true rfl) ?_
        exact mm_G.at (loop (sv (I (m + 1)) 1) 0 (by omega)) (mm_s1 rfl (mm_s1 rfl (mm_s1 rfl (mm_s1 rfl (mm_s1 rfl (mm_s1 rfl mm_s0))))))
      · skip
        have n4 := if_no c_25
        have n4 : ¬ sv (I (m + 1)) (13 + 20 * L) = 0 := fun q => n4 ((inv_open hi hL6).mpr q)
        refine mm_ldc dX8_loser_28 ct_X8_91 ?_
        refine mm_iret dX8_loser_30 rfl ?_
        exact ⟨rfl, _, rfl, by rw [hsp0, if_pos n4], r_fr.rf⟩
    · skip
      have n2 := if_no c_14
      refine mm_ldc dX8_loser_17 ct_X8_76 ?_
      refine mm_iret dX8_loser_19 rfl ?_
      first
        | exact ⟨rfl, _, rfl, (if_pos (fun q => n1 q.1)).symm, r_fr.rf⟩
        | exact ⟨rfl, _, rfl, (if_pos (fun q => n2 q.2)).symm, r_fr.rf⟩
