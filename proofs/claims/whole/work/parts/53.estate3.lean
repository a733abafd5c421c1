/-! THE CLASS: an Estate's lots change -/
theorem est_lot {I J : mm_I} {e L : Nat} {s s' : Nat → Int32} (hi : Inv s) (hs : est_at I e s) (hL : L < 6) (hJ : ∀ c, c < e + 7 + 6 * L ∨ e + 13 + 6 * L ≤ c → J c = I c) (hlot : lot_at J (e + 7 + 6 * L) s' L) (hat : ∀ j, j < 316 → ¬ (9 + 20 * L ≤ j ∧ j < 29 + 20 * L) → ¬ (136 ≤ j ∧ j < 244) → s' j = s j) (hh : ∀ l, l < 6 → l ≠ L → ∀ b, b < 6 → ∀ f, f < 3 → s' (136 + 18 * b + 3 * l + f) = s (136 + 18 * b + 3 * l + f)) : est_at J e s' := by
  obtain ⟨⟨a4, a5, a6, a7, a8, a9, a10, a11⟩, b, c, d, f⟩ := hs
  have he := hJ e (by omega)
  refine ⟨⟨?_, ?_, ?_, ?_, ?_, ?_, ?_, ?_⟩, fun b' hb => ?_, ?_, fun k' hk' => ?_, fun l hl => ?_⟩
  · rw [he, hat 0 (by omega) (by omega) (by omega)]; exact a4
  · rw [he, hat 1 (by omega) (by omega) (by omega)]; exact a5
  · rw [he, hat 135 (by omega) (by omega) (by omega)]; exact a6
  · rw [he, hat 7 (by omega) (by omega) (by omega)]; exact a7
  · rw [he, hat 8 (by omega) (by omega) (by omega)]; exact a8
  · rw [he, hat 2 (by omega) (by omega) (by omega)]; exact a9
  · rw [he, hat 3 (by omega) (by omega) (by omega)]; exact a10
  · rw [he, hat 5 (by omega) (by omega) (by omega)]; exact a11
  · rw [hJ _ (by omega), hat _ (by omega) (by omega) (by omega)]; exact b b' hb
  · rw [hJ _ (by omega), hat _ (by omega) (by omega) (by omega)]; exact c
  · rw [hJ _ (by omega), hat _ (by omega) (by omega) (by omega)]; exact d k' hk'
  · by_cases e2 : l = L
    · subst e2; exact hlot
    · exact lot_at_congr (inv_n hi hl) (fun f hf => hat _ (by omega) (by omega) (by omega)) (hh l hl e2) (lot_at_I (fun c h1 h2 => hJ c (by omega)) (f l hl))
theorem sw_of {s : Nat → Int32} {l n r : Nat} {w : Nat → Nat} (h9 : s (9 + 20 * l) = nI n) (ho : wv_ok n r w) (hw : ∀ k, k < n → s (17 + 20 * l + k) = nI (w k)) : sv s (9 + 20 * l) = n ∧ sw s l = w := by
  have hn := ho.1
  have v := sv_of h9 (by omega)
  refine ⟨v, ?_⟩
  funext k
  unfold sw
  rw [v]
  by_cases hk : k < n
  · rw [if_pos hk]
    exact sv_of (hw k hk) (by have := ho.2.2.1 k; omega)
  · rw [if_neg hk]
    exact (ho.2.2.2.2 k (by omega)).symm
/-- the wine and the tastings of a lot have changed, of both -/
theorem est_wine {I J : mm_I} {e L N : Nat} {w' : Nat → Nat} {s s' : Nat → Int32} (hi : Inv s) (hs : est_at I e s) (hL : L < 6) (hJ : ∀ c, c ≠ e + 7 + 6 * L → c ≠ e + 7 + 6 * L + 1 → c ≠ e + 7 + 6 * L + 1 + 1 → J c = I c) (hw : wv_at J (e + 7 + 6 * L + 1) N (sv s (10 + 20 * L)) w') (ho : wv_ok N (sv s (10 + 20 * L)) w') (j4 : J (e + 7 + 6 * L) 4 = I (e + 7 + 6 * L) 4) (j5 : J (e + 7 + 6 * L) 5 = I (e + 7 + 6 * L) 5) (j6 : J (e + 7 + 6 * L) 6 = s' (11 + 20 * L)) (j7 : J (e + 7 + 6 * L) 7 = s' (12 + 20 * L)) (hat : ∀ j, j ≠ 9 + 20 * L → j ≠ 11 + 20 * L → j ≠ 12 + 20 * L → ¬ (17 + 20 * L ≤ j ∧ j < 29 + 20 * L) → s' j = s j) (e9 : s' (9 + 20 * L) = nI N) (ew : ∀ k, k < N → s' (17 + 20 * L + k) = nI (w' k)) : est_at J e s' := by
  obtain ⟨v9, vw⟩ := sw_of e9 ho ew
  have hl := hs.2.2.2.2 L hL
  have v10 : sv s' (10 + 20 * L) = sv s (10 + 20 * L) := sv_congr (hat _ (by omega) (by omega) (by omega) (by omega))
  refine est_lot hi hs hL (fun c hc => hJ c (by omega) (by omega) (by omega)) ⟨by rw [v9, v10, vw]; exact hw, fun b hb => ?_, ?_, ?_, j6, j7⟩ (fun j h1 h2 h3 => hat j (by omega) (by omega) (by omega) (by omega)) (fun l h1 h2 b h3 f h4 => hat _ (by omega) (by omega) (by omega) (by omega))
  · rw [hJ _ (by omega) (by omega) (by omega), hJ _ (by omega) (by omega) (by omega), hJ _ (by omega) (by omega) (by omega), hat _ (by omega) (by omega) (by omega) (by omega), hat _ (by omega) (by omega) (by omega) (by omega), hat _ (by omega) (by omega) (by omega) (by omega)]
    exact hl.2.1 b hb
  · rw [j4, hat _ (by omega) (by omega) (by omega) (by omega)]; exact hl.2.2.1
  · rw [j5, hat _ (by omega) (by omega) (by omega) (by omega)]; exact hl.2.2.2.1

set_option maxRecDepth 100000 in
set_option maxHeartbeats 4000000 in
theorem c_topLot {S : mm_S} {I : mm_I} {e : Nat} {s : Nat → Int32} {l : Int32} (hE : mm_est S e) (hs : est_at I e s) (hi : Inv s) : mm_ci mX2_topLot [.ref e, .int l] S I (e_Q e I (sp_top s l)) := by
  have hE0 := hE
  obtain ⟨ek, ep0, ep1, ep2, ep3, ek1, ek2, ebk, ebar, elots⟩ := hE
  refine mm_ci.of okX2_topLot rfl (Nat.le_of_ble_eq_true rfl) (lv := [(0, .ref e), (1, .int l)]) rfl ?_
  refine mm_aload_n dX2_topLot_0 rfl rfl ?_
  refine mm_iload_n dX2_topLot_1 rfl rfl ?_
  refine mm_Vr (N := mX2_lotAt) (ci := 2) (as := [_]) dX2_topLot_2 lk_X2_83 okX2_lotAt (by decide) rfl (by decide) rfl (by assumption) rfl (by decide) (c_lotAt hE0 hs hi) (fun r1 J1 hq => ?_)
  obtain ⟨rfl, hJ⟩ := hq
  subst J1
  by_cases y1 : 0 ≤ l ∧ l < s 0
  · rw [if_pos y1]
    obtain ⟨L, hLn, hL6, rfl, hLc⟩ := inv_l hi y1
    rw [hLc]
    obtain ⟨lk, lp0, lp1, lp2, lp3, lbar, lk3, lk4, lk5⟩ := (elots L hL6).2
    have hL := (elots L hL6).2
    have hlat := hs.2.2.2.2 L hL6
    have hok := (hi.2.1 L hL6).2.1
    have hsp : sp_top s (nI L) = match w_find (fun k => decide (sw s L k < 2250)) 0 (sv s (9 + 20 * L) - 1) with
      | none => (-2000000002, s)
      | some _ => (nI (w_top 24 0 (sv s (9 + 20 * L)) (sw s L)).1, w_lay s L (w_top 24 0 (sv s (9 + 20 * L)) (sw s L)).1 (fun k => nI ((w_top 24 0 (sv s (9 + 20 * L)) (sw s L)).2 k))) := by
      unfold sp_top
      rw [if_neg (fun q => q y1), hLc]
      rfl
    have bk := lbar.1
    refine mm_astore_n dX2_topLot_5 rfl (Nat.le_of_ble_eq_true rfl) ?_
    refine mm_aload_n dX2_topLot_6 rfl rfl ?_
    refine mm_ifnonnull 13 dX2_topLot_7 (by decide) ?_
    refine mm_aload_n dX2_topLot_13 rfl rfl ?_
    refine mm_getR dX2_topLot_14 fl_X2_87 rfl (by assumption) (by assumption) ?_
    refine mm_Vi (N := mX0_canBeToppedUp) (ci := 0) (as := []) dX2_topLot_17 lk_X2_112 okX0_canBeToppedUp (by decide) rfl (by decide) rfl (by assumption) rfl (by decide) (c_canBeToppedUp lbar hlat.1 hok) (fun r2 J2 hq => ?_)
    obtain ⟨rfl, hJ⟩ := hq
    subst J2
    refine mm_if_ne 26 dX2_topLot_20 (by decide) (fun c_20 => ?_) (fun c_20 => ?_)
    · skip
      have y2 := if_yes c_20
      refine mm_aload_n dX2_topLot_26 rfl rfl ?_
      refine mm_getR dX2_topLot_27 fl_X2_87 rfl (by assumption) (by assumption) ?_
      refine mm_Vv (N := mX0_topUp) (ci := 0) (as := []) dX2_topLot_30 lk_X2_116 okX0_topUp (by decide) rfl (by decide) rfl (by assumption) rfl (by decide) (c_topUp lbar hlat.1 hok) (fun J3 hq => ?_)
      obtain ⟨k1, k2, k3⟩ := hq
      refine mm_aload_n dX2_topLot_33 rfl rfl ?_
      refine mm_getR dX2_topLot_34 fl_X2_87 rfl (by assumption) (by assumption) ?_
      refine mm_getI dX2_topLot_37 fl_X2_119 rfl (by assumption) ?_
      refine mm_tope (y := nI (w_top 24 0 (sv s (9 + 20 * L)) (sw s L)).1) k1.1 ?_
      refine mm_iret dX2_topLot_40 rfl ?_
      refine ⟨rfl, _, rfl, ?_⟩
      cases hnd : w_find (fun k => decide (sw s L k < 2250)) 0 (sv s (9 + 20 * L) - 1) with
      | none => rw [hnd] at y2; cases y2
      | some b =>
        rw [hnd] at hsp
        unfold e_Q
        rw [hsp]
        have h12 := k2.1
        have le : est_at J3 e (w_lay s L (w_top 24 0 (sv s (9 + 20 * L)) (sw s L)).1 (fun k => nI ((w_top 24 0 (sv s (9 + 20 * L)) (sw s L)).2 k))) := est_wine hi hs hL6 (fun c h1 h2 h3 => k3 c h2 h3) k1 k2 (by rw [k3 _ (by omega) (by omega)]) (by rw [k3 _ (by omega) (by omega)]) (by rw [k3 _ (by omega) (by omega), w_lay_at (by omega) (by omega)]; exact hlat.2.2.2.2.1) (by rw [k3 _ (by omega) (by omega), w_lay_at (by omega) (by omega)]; exact hlat.2.2.2.2.2) (fun j h1 h2 h3 h4 => w_lay_at h1 (by omega)) w_lay_9 (fun k hk => w_lay_k hk)
        exact ⟨rfl, le, fun c hc => k3 c (by omega) (by omega)⟩
    · skip
      have n2 := if_no c_20
      refine mm_ldc dX2_topLot_23 ct_X2_98 ?_
      refine mm_iret dX2_topLot_25 rfl ?_
      refine ⟨rfl, _, rfl, e_Q_err (s := s) (z := -2000000002) ?_ hs⟩
      rw [hsp]
      cases hnd : w_find (fun k => decide (sw s L k < 2250)) 0 (sv s (9 + 20 * L) - 1) with
      | none => rfl
      | some b => rw [hnd] at n2; exact absurd rfl n2
  · rw [if_neg y1]
    refine mm_astoreN_n dX2_topLot_5 rfl (Nat.le_of_ble_eq_true rfl) ?_
    refine mm_aloadN_n dX2_topLot_6 rfl rfl ?_
    refine mm_ifnonnullN dX2_topLot_7 ?_
    refine mm_ldc dX2_topLot_10 ct_X2_81 ?_
    refine mm_iret dX2_topLot_12 rfl ?_
    exact ⟨rfl, _, rfl, e_Q_err (if_pos y1) hs⟩
  
