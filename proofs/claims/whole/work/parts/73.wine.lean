/-! THE CLASS: WineFutures -/
def mm_wine (S : mm_S) (w : Nat) : Prop := (S.2.1 w).1 = 7 ∧ S.2.2 w 0 = some (w + 1) ∧ S.2.2 w 1 = some (w + 44) ∧ S.2.2 w 2 = some (w + 261) ∧ S.2.2 w 3 = some (w + 264) ∧ mm_est S (w + 1) ∧ mm_hist S (w + 44) ∧ mm_ord S (w + 261) ∧ mm_tri S (w + 264)
def wf_at (I : mm_I) (w : Nat) (s : Nat → Int32) (nx n : Nat) (hs : Nat → Nat → Int32) (ty : Nat) (x : Nat → Nat) : Prop := est_at I (w + 1) s ∧ his_at I (w + 44) nx n hs ∧ ot_at I (w + 261) ty x
def wf_fr (w : Nat) (I J : mm_I) : Prop := ∀ c, c < w ∨ w + 308 ≤ c → J c = I c
theorem wf_fr.rf {w : Nat} {I : mm_I} : wf_fr w I I := fun _ _ => rfl
theorem wf_fr.tr {w : Nat} {I J K : mm_I} (h : wf_fr w I J) (g : wf_fr w J K) : wf_fr w I K := fun c hc => (g c hc).trans (h c hc)
theorem ot_at.fr {I J : mm_I} {o ty : Nat} {x : Nat → Nat} (h : ot_at I o ty x) (h0 : J o = I o) (h1 : J (o + 1) = I (o + 1)) : ot_at J o ty x := ⟨by rw [h0]; exact h.1, h.2.1, fun p hp => by rw [h1]; exact h.2.2 p hp⟩
theorem his_at.fr {I J : mm_I} {y nx n : Nat} {hs : Nat → Nat → Int32} (h : his_at I y nx n hs) (hJ : ∀ c, y ≤ c → c < y + 217 → J c = I c) : his_at J y nx n hs := by
  obtain ⟨h1, h2, h3, h4, h5⟩ := h
  refine ⟨h1, h2, by rw [hJ y (by omega) (by omega)]; exact h3, by rw [hJ y (by omega) (by omega)]; exact h4, fun i hi => est_fr (h5 i hi) (fun c c1 c2 => hJ c (by omega) (by omega))⟩
/-- an operation's answer and the state then -/
def wf_Q (w : Nat) (I : mm_I) (s : Nat → Int32) (nx n : Nat) (hs : Nat → Nat → Int32) (ty : Nat) (x : Nat → Nat) (a : sp_T) : Int32 → mm_I → Prop := fun q J =>
  q = a.1 ∧ wf_fr w I J ∧ (0 ≤ a.1 → wf_at J w a.2 (nxUp nx) (pushN n) (pushH n hs s) ty x) ∧ (¬ 0 ≤ a.1 → wf_at J w a.2 nx n hs ty x)

set_option maxRecDepth 100000 in
set_option maxHeartbeats 4000000 in
theorem c_settled {S : mm_S} {I : mm_I} {w nx n : Nat} {a : Int32} (hW : mm_wine S w) (h1 : I (w + 44) 1 = nI nx) (h2 : I (w + 44) 2 = nI n) (hx : nx < 5) (hn : n ≤ 4) : mm_ci mX7_settled [.ref w, .int a] S I (fun q J => q = a ∧ (0 ≤ a → J = mm_wr (mm_wr I (w + 44) 1 (nI (nxUp nx))) (w + 44) 2 (nI (pushN n))) ∧ (¬ 0 ≤ a → J = I)) := by
  obtain ⟨wk, wp0, wp1, wp2, wp3, wE, wH, wO, wT⟩ := hW
  have wEk : (S.2.1 (w + 1)).1 = 2 := wE.1
  have wHk : (S.2.1 (w + 44)).1 = 3 := wH.1
  have wOk : (S.2.1 (w + 261)).1 = 5 := wO.1
  have wTk : (S.2.1 (w + 264)).1 = 6 := wT.1
  refine mm_ci.of okX7_settled rfl (Nat.le_of_ble_eq_true rfl) (lv := [(0, .ref w), (1, .int a)]) rfl ?_
  refine mm_iload_n dX7_settled_0 rfl rfl ?_
  refine mm_if_lt 11 dX7_settled_1 (by decide) (fun c_1 => ?_) (fun c_1 => ?_)
  · skip
    have z1 : ¬ 0 ≤ a := Int32.not_le.mpr c_1
    refine mm_iload_n dX7_settled_11 rfl rfl ?_
    refine mm_iret dX7_settled_12 rfl ?_
    first
      | exact ⟨rfl, _, rfl, rfl, fun q => absurd q z1, fun _ => rfl⟩
      | exact ⟨rfl, _, rfl, rfl, fun _ => rfl, fun q => absurd z2 q⟩
  · skip
    have z2 : 0 ≤ a := Int32.not_lt.mp c_1
    refine mm_aload_n dX7_settled_4 rfl rfl ?_
    refine mm_getR dX7_settled_5 fl_X7_19 rfl (by assumption) (by assumption) ?_
    refine mm_Vv (N := mX3_keepDraft) (ci := 3) (as := []) dX7_settled_8 lk_X7_165 okX3_keepDraft (by decide) rfl (by decide) rfl (by assumption) rfl (by decide) (c_keepDraft wH h1 h2 hx hn) (fun J1 hq => ?_)
    subst hq
    refine mm_iload_n dX7_settled_11 rfl rfl ?_
    refine mm_iret dX7_settled_12 rfl ?_
    first
      | exact ⟨rfl, _, rfl, rfl, fun q => absurd q z1, fun _ => rfl⟩
      | exact ⟨rfl, _, rfl, rfl, fun _ => rfl, fun q => absurd z2 q⟩
set_option maxRecDepth 100000 in
set_option maxHeartbeats 4000000 in
theorem c_lot {S : mm_S} {I : mm_I} {w nx n ty : Nat} {hs : Nat → Nat → Int32} {x : Nat → Nat} {s : Nat → Int32} {a0 a1 : Int32} (hW : mm_wine S w) (hA : wf_at I w s nx n hs ty x) (hi : Inv s) : mm_ci mX7_lot [.ref w, .int a0, .int a1] S I (wf_Q w I s nx n hs ty x (sp_lot s a0 a1)) := by
  have hW0 := hW
  obtain ⟨wk, wp0, wp1, wp2, wp3, wE, wH, wO, wT⟩ := hW
  have wEk : (S.2.1 (w + 1)).1 = 2 := wE.1
  have wHk : (S.2.1 (w + 44)).1 = 3 := wH.1
  have wOk : (S.2.1 (w + 261)).1 = 5 := wO.1
  have wTk : (S.2.1 (w + 264)).1 = 6 := wT.1
  obtain ⟨hs0, hh, ht⟩ := hA
  refine mm_ci.of okX7_lot rfl (Nat.le_of_ble_eq_true rfl) (lv := [(0, .ref w), (1, .int a0), (2, .int a1)]) rfl ?_
  refine mm_aload_n dX7_lot_0 rfl rfl ?_
  refine mm_getR dX7_lot_1 fl_X7_19 rfl (by assumption) (by assumption) ?_
  refine mm_aload_n dX7_lot_4 rfl rfl ?_
  refine mm_getR dX7_lot_5 fl_X7_10 rfl (by assumption) (by assumption) ?_
  refine mm_Vv (N := mX3_draft) (ci := 3) (as := [_]) dX7_lot_8 lk_X7_37 okX3_draft (by decide) rfl (by decide) rfl (by assumption) rfl (by decide) (c_draft wH wE (by omega) hh hs0 hi) (fun J1 hq => ?_)
  obtain ⟨d1, d2⟩ := hq
  have hxn := hh.1
  have d3 := his_draft hh d2
  have d4 : est_at J1 (w + 1) s := est_fr hs0 (fun c c1 c2 => d2 c (by omega))
  have d5 : ot_at J1 (w + 261) ty x := ht.fr (d2 _ (by omega)) (d2 _ (by omega))
  have d6 : wf_fr w I J1 := fun c hc => d2 c (by omega)
  refine mm_aload_n dX7_lot_11 rfl rfl ?_
  refine mm_aload_n dX7_lot_12 rfl rfl ?_
  refine mm_getR dX7_lot_13 fl_X7_10 rfl (by assumption) (by assumption) ?_
  refine mm_iload_n dX7_lot_16 rfl rfl ?_
  refine mm_iload_n dX7_lot_17 rfl rfl ?_
  refine mm_Vi (N := mX2_addLot) (ci := 2) (as := [_, _]) dX7_lot_18 lk_X7_41 okX2_addLot (by decide) rfl (by decide) rfl (by assumption) rfl (by first | decide | (simp [Value.category])) (c_addLot wE d4 hi) (fun r2 J2 hq => ?_)
  obtain ⟨rfl, e1, e2⟩ := hq
  have e3 := d3.fr (J := J2) (fun c c1 c2 => e2 c (by omega))
  have e4 := est_fr (J := J2) d1 (fun c c1 c2 => e2 c (by omega))
  have e5 : ot_at J2 (w + 261) ty x := d5.fr (e2 _ (by omega)) (e2 _ (by omega))
  have e6 : wf_fr w I J2 := d6.tr (fun c hc => e2 c (by omega))
  refine mm_Vi (N := mX7_settled) (ci := 7) (as := [_]) dX7_lot_21 lk_X7_45 okX7_settled (by decide) rfl (by decide) rfl (by assumption) rfl (by decide) (c_settled hW0 e3.2.2.1 e3.2.2.2.1 e3.1 e3.2.1) (fun r3 J3 hq => ?_)
  obtain ⟨rfl, g1, g2⟩ := hq
  refine mm_iret dX7_lot_24 rfl ?_
  refine ⟨rfl, _, rfl, rfl, ?_, fun z => ?_, fun z => ?_⟩
  · by_cases z : 0 ≤ (sp_lot s a0 a1).1
    · rw [g1 z]
      exact e6.tr (fun c hc => by rw [mm_wr_row (by omega), mm_wr_row (by omega)])
    · rw [g2 z]; exact e6
  · rw [g1 z]
    exact ⟨est_fr e1 (fun c c1 c2 => by rw [mm_wr_row (by omega), mm_wr_row (by omega)]), his_keep e3 e4 (fun c hc => by rw [mm_wr_row hc, mm_wr_row hc]) ((mm_wr_k (by omega)).trans mm_wr_s) mm_wr_s, e5.fr (by rw [mm_wr_row (by omega), mm_wr_row (by omega)]) (by rw [mm_wr_row (by omega), mm_wr_row (by omega)])⟩
  · rw [g2 z]
    exact ⟨e1, e3, e5⟩
set_option maxRecDepth 100000 in
set_option maxHeartbeats 4000000 in
theorem c_taste {S : mm_S} {I : mm_I} {w nx n ty : Nat} {hs : Nat → Nat → Int32} {x : Nat → Nat} {s : Nat → Int32} {a0 a1 : Int32} (hW : mm_wine S w) (hA : wf_at I w s nx n hs ty x) (hi : Inv s) : mm_ci mX7_taste [.ref w, .int a0, .int a1] S I (wf_Q w I s nx n hs ty x (sp_taste s a0 a1)) := by
  have hW0 := hW
  obtain ⟨wk, wp0, wp1, wp2, wp3, wE, wH, wO, wT⟩ := hW
  have wEk : (S.2.1 (w + 1)).1 = 2 := wE.1
  have wHk : (S.2.1 (w + 44)).1 = 3 := wH.1
  have wOk : (S.2.1 (w + 261)).1 = 5 := wO.1
  have wTk : (S.2.1 (w + 264)).1 = 6 := wT.1
  obtain ⟨hs0, hh, ht⟩ := hA
  refine mm_ci.of okX7_taste rfl (Nat.le_of_ble_eq_true rfl) (lv := [(0, .ref w), (1, .int a0), (2, .int a1)]) rfl ?_
  refine mm_aload_n dX7_taste_0 rfl rfl ?_
  refine mm_getR dX7_taste_1 fl_X7_19 rfl (by assumption) (by assumption) ?_
  refine mm_aload_n dX7_taste_4 rfl rfl ?_
  refine mm_getR dX7_taste_5 fl_X7_10 rfl (by assumption) (by assumption) ?_
  refine mm_Vv (N := mX3_draft) (ci := 3) (as := [_]) dX7_taste_8 lk_X7_37 okX3_draft (by decide) rfl (by decide) rfl (by assumption) rfl (by decide) (c_draft wH wE (by omega) hh hs0 hi) (fun J1 hq => ?_)
  obtain ⟨d1, d2⟩ := hq
  have hxn := hh.1
  have d3 := his_draft hh d2
  have d4 : est_at J1 (w + 1) s := est_fr hs0 (fun c c1 c2 => d2 c (by omega))
  have d5 : ot_at J1 (w + 261) ty x := ht.fr (d2 _ (by omega)) (d2 _ (by omega))
  have d6 : wf_fr w I J1 := fun c hc => d2 c (by omega)
  refine mm_aload_n dX7_taste_11 rfl rfl ?_
  refine mm_aload_n dX7_taste_12 rfl rfl ?_
  refine mm_getR dX7_taste_13 fl_X7_10 rfl (by assumption) (by assumption) ?_
  refine mm_iload_n dX7_taste_16 rfl rfl ?_
  refine mm_iload_n dX7_taste_17 rfl rfl ?_
  refine mm_Vi (N := mX2_tasteLot) (ci := 2) (as := [_, _]) dX7_taste_18 lk_X7_49 okX2_tasteLot (by decide) rfl (by decide) rfl (by assumption) rfl (by first | decide | (simp [Value.category])) (c_tasteLot wE d4 hi) (fun r2 J2 hq => ?_)
  obtain ⟨rfl, e1, e2⟩ := hq
  have e3 := d3.fr (J := J2) (fun c c1 c2 => e2 c (by omega))
  have e4 := est_fr (J := J2) d1 (fun c c1 c2 => e2 c (by omega))
  have e5 : ot_at J2 (w + 261) ty x := d5.fr (e2 _ (by omega)) (e2 _ (by omega))
  have e6 : wf_fr w I J2 := d6.tr (fun c hc => e2 c (by omega))
  refine mm_Vi (N := mX7_settled) (ci := 7) (as := [_]) dX7_taste_21 lk_X7_45 okX7_settled (by decide) rfl (by decide) rfl (by assumption) rfl (by decide) (c_settled hW0 e3.2.2.1 e3.2.2.2.1 e3.1 e3.2.1) (fun r3 J3 hq => ?_)
  obtain ⟨rfl, g1, g2⟩ := hq
  refine mm_iret dX7_taste_24 rfl ?_
  refine ⟨rfl, _, rfl, rfl, ?_, fun z => ?_, fun z => ?_⟩
  · by_cases z : 0 ≤ (sp_taste s a0 a1).1
    · rw [g1 z]
      exact e6.tr (fun c hc => by rw [mm_wr_row (by omega), mm_wr_row (by omega)])
    · rw [g2 z]; exact e6
  · rw [g1 z]
    exact ⟨est_fr e1 (fun c c1 c2 => by rw [mm_wr_row (by omega), mm_wr_row (by omega)]), his_keep e3 e4 (fun c hc => by rw [mm_wr_row hc, mm_wr_row hc]) ((mm_wr_k (by omega)).trans mm_wr_s) mm_wr_s, e5.fr (by rw [mm_wr_row (by omega), mm_wr_row (by omega)]) (by rw [mm_wr_row (by omega), mm_wr_row (by omega)])⟩
  · rw [g2 z]
    exact ⟨e1, e3, e5⟩
set_option maxRecDepth 100000 in
set_option maxHeartbeats 4000000 in
theorem c_top {S : mm_S} {I : mm_I} {w nx n ty : Nat} {hs : Nat → Nat → Int32} {x : Nat → Nat} {s : Nat → Int32} {a0 : Int32} (hW : mm_wine S w) (hA : wf_at I w s nx n hs ty x) (hi : Inv s) : mm_ci mX7_top [.ref w, .int a0] S I (wf_Q w I s nx n hs ty x (sp_top s a0)) := by
  have hW0 := hW
  obtain ⟨wk, wp0, wp1, wp2, wp3, wE, wH, wO, wT⟩ := hW
  have wEk : (S.2.1 (w + 1)).1 = 2 := wE.1
  have wHk : (S.2.1 (w + 44)).1 = 3 := wH.1
  have wOk : (S.2.1 (w + 261)).1 = 5 := wO.1
  have wTk : (S.2.1 (w + 264)).1 = 6 := wT.1
  obtain ⟨hs0, hh, ht⟩ := hA
  refine mm_ci.of okX7_top rfl (Nat.le_of_ble_eq_true rfl) (lv := [(0, .ref w), (1, .int a0)]) rfl ?_
  refine mm_aload_n dX7_top_0 rfl rfl ?_
  refine mm_getR dX7_top_1 fl_X7_19 rfl (by assumption) (by assumption) ?_
  refine mm_aload_n dX7_top_4 rfl rfl ?_
  refine mm_getR dX7_top_5 fl_X7_10 rfl (by assumption) (by assumption) ?_
  refine mm_Vv (N := mX3_draft) (ci := 3) (as := [_]) dX7_top_8 lk_X7_37 okX3_draft (by decide) rfl (by decide) rfl (by assumption) rfl (by decide) (c_draft wH wE (by omega) hh hs0 hi) (fun J1 hq => ?_)
  obtain ⟨d1, d2⟩ := hq
  have hxn := hh.1
  have d3 := his_draft hh d2
  have d4 : est_at J1 (w + 1) s := est_fr hs0 (fun c c1 c2 => d2 c (by omega))
  have d5 : ot_at J1 (w + 261) ty x := ht.fr (d2 _ (by omega)) (d2 _ (by omega))
  have d6 : wf_fr w I J1 := fun c hc => d2 c (by omega)
  refine mm_aload_n dX7_top_11 rfl rfl ?_
  refine mm_aload_n dX7_top_12 rfl rfl ?_
  refine mm_getR dX7_top_13 fl_X7_10 rfl (by assumption) (by assumption) ?_
  refine mm_iload_n dX7_top_16 rfl rfl ?_
  refine mm_Vi (N := mX2_topLot) (ci := 2) (as := [_]) dX7_top_17 lk_X7_52 okX2_topLot (by decide) rfl (by decide) rfl (by assumption) rfl (by first | decide | (simp [Value.category])) (c_topLot wE d4 hi) (fun r2 J2 hq => ?_)
  obtain ⟨rfl, e1, e2⟩ := hq
  have e3 := d3.fr (J := J2) (fun c c1 c2 => e2 c (by omega))
  have e4 := est_fr (J := J2) d1 (fun c c1 c2 => e2 c (by omega))
  have e5 : ot_at J2 (w + 261) ty x := d5.fr (e2 _ (by omega)) (e2 _ (by omega))
  have e6 : wf_fr w I J2 := d6.tr (fun c hc => e2 c (by omega))
  refine mm_Vi (N := mX7_settled) (ci := 7) (as := [_]) dX7_top_20 lk_X7_45 okX7_settled (by decide) rfl (by decide) rfl (by assumption) rfl (by decide) (c_settled hW0 e3.2.2.1 e3.2.2.2.1 e3.1 e3.2.1) (fun r3 J3 hq => ?_)
  obtain ⟨rfl, g1, g2⟩ := hq
  refine mm_iret dX7_top_23 rfl ?_
  refine ⟨rfl, _, rfl, rfl, ?_, fun z => ?_, fun z => ?_⟩
  · by_cases z : 0 ≤ (sp_top s a0).1
    · rw [g1 z]
      exact e6.tr (fun c hc => by rw [mm_wr_row (by omega), mm_wr_row (by omega)])
    · rw [g2 z]; exact e6
  · rw [g1 z]
    exact ⟨est_fr e1 (fun c c1 c2 => by rw [mm_wr_row (by omega), mm_wr_row (by omega)]), his_keep e3 e4 (fun c hc => by rw [mm_wr_row hc, mm_wr_row hc]) ((mm_wr_k (by omega)).trans mm_wr_s) mm_wr_s, e5.fr (by rw [mm_wr_row (by omega), mm_wr_row (by omega)]) (by rw [mm_wr_row (by omega), mm_wr_row (by omega)])⟩
  · rw [g2 z]
    exact ⟨e1, e3, e5⟩
set_option maxRecDepth 100000 in
set_option maxHeartbeats 4000000 in
theorem c_pass {S : mm_S} {I : mm_I} {w nx n ty : Nat} {hs : Nat → Nat → Int32} {x : Nat → Nat} {s : Nat → Int32} {a0 : Int32} (hW : mm_wine S w) (hA : wf_at I w s nx n hs ty x) (hi : Inv s) : mm_ci mX7_pass [.ref w, .int a0] S I (wf_Q w I s nx n hs ty x (sp_pass s a0)) := by
  have hW0 := hW
  obtain ⟨wk, wp0, wp1, wp2, wp3, wE, wH, wO, wT⟩ := hW
  have wEk : (S.2.1 (w + 1)).1 = 2 := wE.1
  have wHk : (S.2.1 (w + 44)).1 = 3 := wH.1
  have wOk : (S.2.1 (w + 261)).1 = 5 := wO.1
  have wTk : (S.2.1 (w + 264)).1 = 6 := wT.1
  obtain ⟨hs0, hh, ht⟩ := hA
  refine mm_ci.of okX7_pass rfl (Nat.le_of_ble_eq_true rfl) (lv := [(0, .ref w), (1, .int a0)]) rfl ?_
  refine mm_aload_n dX7_pass_0 rfl rfl ?_
  refine mm_getR dX7_pass_1 fl_X7_19 rfl (by assumption) (by assumption) ?_
  refine mm_aload_n dX7_pass_4 rfl rfl ?_
  refine mm_getR dX7_pass_5 fl_X7_10 rfl (by assumption) (by assumption) ?_
  refine mm_Vv (N := mX3_draft) (ci := 3) (as := [_]) dX7_pass_8 lk_X7_37 okX3_draft (by decide) rfl (by decide) rfl (by assumption) rfl (by decide) (c_draft wH wE (by omega) hh hs0 hi) (fun J1 hq => ?_)
  obtain ⟨d1, d2⟩ := hq
  have hxn := hh.1
  have d3 := his_draft hh d2
  have d4 : est_at J1 (w + 1) s := est_fr hs0 (fun c c1 c2 => d2 c (by omega))
  have d5 : ot_at J1 (w + 261) ty x := ht.fr (d2 _ (by omega)) (d2 _ (by omega))
  have d6 : wf_fr w I J1 := fun c hc => d2 c (by omega)
  refine mm_aload_n dX7_pass_11 rfl rfl ?_
  refine mm_aload_n dX7_pass_12 rfl rfl ?_
  refine mm_getR dX7_pass_13 fl_X7_10 rfl (by assumption) (by assumption) ?_
  refine mm_iload_n dX7_pass_16 rfl rfl ?_
  refine mm_Vi (N := mX2_passMonths) (ci := 2) (as := [_]) dX7_pass_17 lk_X7_55 okX2_passMonths (by decide) rfl (by decide) rfl (by assumption) rfl (by first | decide | (simp [Value.category])) (c_passMonths wE d4 hi) (fun r2 J2 hq => ?_)
  obtain ⟨rfl, e1, e2⟩ := hq
  have e3 := d3.fr (J := J2) (fun c c1 c2 => e2 c (by omega))
  have e4 := est_fr (J := J2) d1 (fun c c1 c2 => e2 c (by omega))
  have e5 : ot_at J2 (w + 261) ty x := d5.fr (e2 _ (by omega)) (e2 _ (by omega))
  have e6 : wf_fr w I J2 := d6.tr (fun c hc => e2 c (by omega))
  refine mm_Vi (N := mX7_settled) (ci := 7) (as := [_]) dX7_pass_20 lk_X7_45 okX7_settled (by decide) rfl (by decide) rfl (by assumption) rfl (by decide) (c_settled hW0 e3.2.2.1 e3.2.2.2.1 e3.1 e3.2.1) (fun r3 J3 hq => ?_)
  obtain ⟨rfl, g1, g2⟩ := hq
  refine mm_iret dX7_pass_23 rfl ?_
  refine ⟨rfl, _, rfl, rfl, ?_, fun z => ?_, fun z => ?_⟩
  · by_cases z : 0 ≤ (sp_pass s a0).1
    · rw [g1 z]
      exact e6.tr (fun c hc => by rw [mm_wr_row (by omega), mm_wr_row (by omega)])
    · rw [g2 z]; exact e6
  · rw [g1 z]
    exact ⟨est_fr e1 (fun c c1 c2 => by rw [mm_wr_row (by omega), mm_wr_row (by omega)]), his_keep e3 e4 (fun c hc => by rw [mm_wr_row hc, mm_wr_row hc]) ((mm_wr_k (by omega)).trans mm_wr_s) mm_wr_s, e5.fr (by rw [mm_wr_row (by omega), mm_wr_row (by omega)]) (by rw [mm_wr_row (by omega), mm_wr_row (by omega)])⟩
  · rw [g2 z]
    exact ⟨e1, e3, e5⟩
set_option maxRecDepth 100000 in
set_option maxHeartbeats 4000000 in
theorem c_bottle {S : mm_S} {I : mm_I} {w nx n ty : Nat} {hs : Nat → Nat → Int32} {x : Nat → Nat} {s : Nat → Int32} {a0 : Int32} (hW : mm_wine S w) (hA : wf_at I w s nx n hs ty x) (hi : Inv s) : mm_ci mX7_bottle [.ref w, .int a0] S I (wf_Q w I s nx n hs ty x (sp_bottle s a0)) := by
  have hW0 := hW
  obtain ⟨wk, wp0, wp1, wp2, wp3, wE, wH, wO, wT⟩ := hW
  have wEk : (S.2.1 (w + 1)).1 = 2 := wE.1
  have wHk : (S.2.1 (w + 44)).1 = 3 := wH.1
  have wOk : (S.2.1 (w + 261)).1 = 5 := wO.1
  have wTk : (S.2.1 (w + 264)).1 = 6 := wT.1
  obtain ⟨hs0, hh, ht⟩ := hA
  refine mm_ci.of okX7_bottle rfl (Nat.le_of_ble_eq_true rfl) (lv := [(0, .ref w), (1, .int a0)]) rfl ?_
  refine mm_aload_n dX7_bottle_0 rfl rfl ?_
  refine mm_getR dX7_bottle_1 fl_X7_19 rfl (by assumption) (by assumption) ?_
  refine mm_aload_n dX7_bottle_4 rfl rfl ?_
  refine mm_getR dX7_bottle_5 fl_X7_10 rfl (by assumption) (by assumption) ?_
  refine mm_Vv (N := mX3_draft) (ci := 3) (as := [_]) dX7_bottle_8 lk_X7_37 okX3_draft (by decide) rfl (by decide) rfl (by assumption) rfl (by decide) (c_draft wH wE (by omega) hh hs0 hi) (fun J1 hq => ?_)
  obtain ⟨d1, d2⟩ := hq
  have hxn := hh.1
  have d3 := his_draft hh d2
  have d4 : est_at J1 (w + 1) s := est_fr hs0 (fun c c1 c2 => d2 c (by omega))
  have d5 : ot_at J1 (w + 261) ty x := ht.fr (d2 _ (by omega)) (d2 _ (by omega))
  have d6 : wf_fr w I J1 := fun c hc => d2 c (by omega)
  refine mm_aload_n dX7_bottle_11 rfl rfl ?_
  refine mm_aload_n dX7_bottle_12 rfl rfl ?_
  refine mm_getR dX7_bottle_13 fl_X7_10 rfl (by assumption) (by assumption) ?_
  refine mm_iload_n dX7_bottle_16 rfl rfl ?_
  refine mm_Vi (N := mX2_bottleLot) (ci := 2) (as := [_]) dX7_bottle_17 lk_X7_58 okX2_bottleLot (by decide) rfl (by decide) rfl (by assumption) rfl (by first | decide | (simp [Value.category])) (c_bottleLot wE d4 hi) (fun r2 J2 hq => ?_)
  obtain ⟨rfl, e1, e2⟩ := hq
  have e3 := d3.fr (J := J2) (fun c c1 c2 => e2 c (by omega))
  have e4 := est_fr (J := J2) d1 (fun c c1 c2 => e2 c (by omega))
  have e5 : ot_at J2 (w + 261) ty x := d5.fr (e2 _ (by omega)) (e2 _ (by omega))
  have e6 : wf_fr w I J2 := d6.tr (fun c hc => e2 c (by omega))
  refine mm_Vi (N := mX7_settled) (ci := 7) (as := [_]) dX7_bottle_20 lk_X7_45 okX7_settled (by decide) rfl (by decide) rfl (by assumption) rfl (by decide) (c_settled hW0 e3.2.2.1 e3.2.2.2.1 e3.1 e3.2.1) (fun r3 J3 hq => ?_)
  obtain ⟨rfl, g1, g2⟩ := hq
  refine mm_iret dX7_bottle_23 rfl ?_
  refine ⟨rfl, _, rfl, rfl, ?_, fun z => ?_, fun z => ?_⟩
  · by_cases z : 0 ≤ (sp_bottle s a0).1
    · rw [g1 z]
      exact e6.tr (fun c hc => by rw [mm_wr_row (by omega), mm_wr_row (by omega)])
    · rw [g2 z]; exact e6
  · rw [g1 z]
    exact ⟨est_fr e1 (fun c c1 c2 => by rw [mm_wr_row (by omega), mm_wr_row (by omega)]), his_keep e3 e4 (fun c hc => by rw [mm_wr_row hc, mm_wr_row hc]) ((mm_wr_k (by omega)).trans mm_wr_s) mm_wr_s, e5.fr (by rw [mm_wr_row (by omega), mm_wr_row (by omega)]) (by rw [mm_wr_row (by omega), mm_wr_row (by omega)])⟩
  · rw [g2 z]
    exact ⟨e1, e3, e5⟩
set_option maxRecDepth 100000 in
set_option maxHeartbeats 4000000 in
theorem c_buyer {S : mm_S} {I : mm_I} {w nx n ty : Nat} {hs : Nat → Nat → Int32} {x : Nat → Nat} {s : Nat → Int32} (hW : mm_wine S w) (hA : wf_at I w s nx n hs ty x) (hi : Inv s) : mm_ci mX7_buyer [.ref w] S I (wf_Q w I s nx n hs ty x (sp_buyer s)) := by
  have hW0 := hW
  obtain ⟨wk, wp0, wp1, wp2, wp3, wE, wH, wO, wT⟩ := hW
  have wEk : (S.2.1 (w + 1)).1 = 2 := wE.1
  have wHk : (S.2.1 (w + 44)).1 = 3 := wH.1
  have wOk : (S.2.1 (w + 261)).1 = 5 := wO.1
  have wTk : (S.2.1 (w + 264)).1 = 6 := wT.1
  obtain ⟨hs0, hh, ht⟩ := hA
  refine mm_ci.of okX7_buyer rfl (Nat.le_of_ble_eq_true rfl) (lv := [(0, .ref w)]) rfl ?_
  refine mm_aload_n dX7_buyer_0 rfl rfl ?_
  refine mm_getR dX7_buyer_1 fl_X7_19 rfl (by assumption) (by assumption) ?_
  refine mm_aload_n dX7_buyer_4 rfl rfl ?_
  refine mm_getR dX7_buyer_5 fl_X7_10 rfl (by assumption) (by assumption) ?_
  refine mm_Vv (N := mX3_draft) (ci := 3) (as := [_]) dX7_buyer_8 lk_X7_37 okX3_draft (by decide) rfl (by decide) rfl (by assumption) rfl (by decide) (c_draft wH wE (by omega) hh hs0 hi) (fun J1 hq => ?_)
  obtain ⟨d1, d2⟩ := hq
  have hxn := hh.1
  have d3 := his_draft hh d2
  have d4 : est_at J1 (w + 1) s := est_fr hs0 (fun c c1 c2 => d2 c (by omega))
  have d5 : ot_at J1 (w + 261) ty x := ht.fr (d2 _ (by omega)) (d2 _ (by omega))
  have d6 : wf_fr w I J1 := fun c hc => d2 c (by omega)
  refine mm_aload_n dX7_buyer_11 rfl rfl ?_
  refine mm_aload_n dX7_buyer_12 rfl rfl ?_
  refine mm_getR dX7_buyer_13 fl_X7_10 rfl (by assumption) (by assumption) ?_
  refine mm_Vi (N := mX2_addBuyer) (ci := 2) (as := []) dX7_buyer_16 lk_X7_61 okX2_addBuyer (by decide) rfl (by decide) rfl (by assumption) rfl (by first | decide | (simp [Value.category])) (c_addBuyer wE d4 hi) (fun r2 J2 hq => ?_)
  obtain ⟨rfl, e1, e2⟩ := hq
  have e3 := d3.fr (J := J2) (fun c c1 c2 => e2 c (by omega))
  have e4 := est_fr (J := J2) d1 (fun c c1 c2 => e2 c (by omega))
  have e5 : ot_at J2 (w + 261) ty x := d5.fr (e2 _ (by omega)) (e2 _ (by omega))
  have e6 : wf_fr w I J2 := d6.tr (fun c hc => e2 c (by omega))
  refine mm_Vi (N := mX7_settled) (ci := 7) (as := [_]) dX7_buyer_19 lk_X7_45 okX7_settled (by decide) rfl (by decide) rfl (by assumption) rfl (by decide) (c_settled hW0 e3.2.2.1 e3.2.2.2.1 e3.1 e3.2.1) (fun r3 J3 hq => ?_)
  obtain ⟨rfl, g1, g2⟩ := hq
  refine mm_iret dX7_buyer_22 rfl ?_
  refine ⟨rfl, _, rfl, rfl, ?_, fun z => ?_, fun z => ?_⟩
  · by_cases z : 0 ≤ (sp_buyer s).1
    · rw [g1 z]
      exact e6.tr (fun c hc => by rw [mm_wr_row (by omega), mm_wr_row (by omega)])
    · rw [g2 z]; exact e6
  · rw [g1 z]
    exact ⟨est_fr e1 (fun c c1 c2 => by rw [mm_wr_row (by omega), mm_wr_row (by omega)]), his_keep e3 e4 (fun c hc => by rw [mm_wr_row hc, mm_wr_row hc]) ((mm_wr_k (by omega)).trans mm_wr_s) mm_wr_s, e5.fr (by rw [mm_wr_row (by omega), mm_wr_row (by omega)]) (by rw [mm_wr_row (by omega), mm_wr_row (by omega)])⟩
  · rw [g2 z]
    exact ⟨e1, e3, e5⟩
set_option maxRecDepth 100000 in
set_option maxHeartbeats 4000000 in
theorem c_sell {S : mm_S} {I : mm_I} {w nx n ty : Nat} {hs : Nat → Nat → Int32} {x : Nat → Nat} {s : Nat → Int32} {a0 a1 a2 a3 : Int32} (hW : mm_wine S w) (hA : wf_at I w s nx n hs ty x) (hi : Inv s) : mm_ci mX7_sell [.ref w, .int a0, .int a1, .int a2, .int a3] S I (wf_Q w I s nx n hs ty x (sp_sell s a0 a1 a2 a3)) := by
  have hW0 := hW
  obtain ⟨wk, wp0, wp1, wp2, wp3, wE, wH, wO, wT⟩ := hW
  have wEk : (S.2.1 (w + 1)).1 = 2 := wE.1
  have wHk : (S.2.1 (w + 44)).1 = 3 := wH.1
  have wOk : (S.2.1 (w + 261)).1 = 5 := wO.1
  have wTk : (S.2.1 (w + 264)).1 = 6 := wT.1
  obtain ⟨hs0, hh, ht⟩ := hA
  refine mm_ci.of okX7_sell rfl (Nat.le_of_ble_eq_true rfl) (lv := [(0, .ref w), (1, .int a0), (2, .int a1), (3, .int a2), (4, .int a3)]) rfl ?_
  refine mm_aload_n dX7_sell_0 rfl rfl ?_
  refine mm_getR dX7_sell_1 fl_X7_19 rfl (by assumption) (by assumption) ?_
  refine mm_aload_n dX7_sell_4 rfl rfl ?_
  refine mm_getR dX7_sell_5 fl_X7_10 rfl (by assumption) (by assumption) ?_
  refine mm_Vv (N := mX3_draft) (ci := 3) (as := [_]) dX7_sell_8 lk_X7_37 okX3_draft (by decide) rfl (by decide) rfl (by assumption) rfl (by decide) (c_draft wH wE (by omega) hh hs0 hi) (fun J1 hq => ?_)
  obtain ⟨d1, d2⟩ := hq
  have hxn := hh.1
  have d3 := his_draft hh d2
  have d4 : est_at J1 (w + 1) s := est_fr hs0 (fun c c1 c2 => d2 c (by omega))
  have d5 : ot_at J1 (w + 261) ty x := ht.fr (d2 _ (by omega)) (d2 _ (by omega))
  have d6 : wf_fr w I J1 := fun c hc => d2 c (by omega)
  refine mm_aload_n dX7_sell_11 rfl rfl ?_
  refine mm_aload_n dX7_sell_12 rfl rfl ?_
  refine mm_getR dX7_sell_13 fl_X7_10 rfl (by assumption) (by assumption) ?_
  refine mm_iload_n dX7_sell_16 rfl rfl ?_
  refine mm_iload_n dX7_sell_17 rfl rfl ?_
  refine mm_iload_n dX7_sell_18 rfl rfl ?_
  refine mm_iload dX7_sell_19 rfl ?_
  refine mm_Vi (N := mX2_sellFutures) (ci := 2) (as := [_, _, _, _]) dX7_sell_21 lk_X7_65 okX2_sellFutures (by decide) rfl (by decide) rfl (by assumption) rfl (by first | decide | (simp [Value.category])) (c_sellFutures wE d4 hi) (fun r2 J2 hq => ?_)
  obtain ⟨rfl, e1, e2⟩ := hq
  have e3 := d3.fr (J := J2) (fun c c1 c2 => e2 c (by omega))
  have e4 := est_fr (J := J2) d1 (fun c c1 c2 => e2 c (by omega))
  have e5 : ot_at J2 (w + 261) ty x := d5.fr (e2 _ (by omega)) (e2 _ (by omega))
  have e6 : wf_fr w I J2 := d6.tr (fun c hc => e2 c (by omega))
  refine mm_Vi (N := mX7_settled) (ci := 7) (as := [_]) dX7_sell_24 lk_X7_45 okX7_settled (by decide) rfl (by decide) rfl (by assumption) rfl (by decide) (c_settled hW0 e3.2.2.1 e3.2.2.2.1 e3.1 e3.2.1) (fun r3 J3 hq => ?_)
  obtain ⟨rfl, g1, g2⟩ := hq
  refine mm_iret dX7_sell_27 rfl ?_
  refine ⟨rfl, _, rfl, rfl, ?_, fun z => ?_, fun z => ?_⟩
  · by_cases z : 0 ≤ (sp_sell s a0 a1 a2 a3).1
    · rw [g1 z]
      exact e6.tr (fun c hc => by rw [mm_wr_row (by omega), mm_wr_row (by omega)])
    · rw [g2 z]; exact e6
  · rw [g1 z]
    exact ⟨est_fr e1 (fun c c1 c2 => by rw [mm_wr_row (by omega), mm_wr_row (by omega)]), his_keep e3 e4 (fun c hc => by rw [mm_wr_row hc, mm_wr_row hc]) ((mm_wr_k (by omega)).trans mm_wr_s) mm_wr_s, e5.fr (by rw [mm_wr_row (by omega), mm_wr_row (by omega)]) (by rw [mm_wr_row (by omega), mm_wr_row (by omega)])⟩
  · rw [g2 z]
    exact ⟨e1, e3, e5⟩
set_option maxRecDepth 100000 in
set_option maxHeartbeats 4000000 in
theorem c_trade {S : mm_S} {I : mm_I} {w nx n ty : Nat} {hs : Nat → Nat → Int32} {x : Nat → Nat} {s : Nat → Int32} {a0 a1 a2 a3 a4 : Int32} (hW : mm_wine S w) (hA : wf_at I w s nx n hs ty x) (hi : Inv s) : mm_ci mX7_trade [.ref w, .int a0, .int a1, .int a2, .int a3, .int a4] S I (wf_Q w I s nx n hs ty x (sp_trade s a0 a1 a2 a3 a4)) := by
  have hW0 := hW
  obtain ⟨wk, wp0, wp1, wp2, wp3, wE, wH, wO, wT⟩ := hW
  have wEk : (S.2.1 (w + 1)).1 = 2 := wE.1
  have wHk : (S.2.1 (w + 44)).1 = 3 := wH.1
  have wOk : (S.2.1 (w + 261)).1 = 5 := wO.1
  have wTk : (S.2.1 (w + 264)).1 = 6 := wT.1
  obtain ⟨hs0, hh, ht⟩ := hA
  refine mm_ci.of okX7_trade rfl (Nat.le_of_ble_eq_true rfl) (lv := [(0, .ref w), (1, .int a0), (2, .int a1), (3, .int a2), (4, .int a3), (5, .int a4)]) rfl ?_
  refine mm_aload_n dX7_trade_0 rfl rfl ?_
  refine mm_getR dX7_trade_1 fl_X7_19 rfl (by assumption) (by assumption) ?_
  refine mm_aload_n dX7_trade_4 rfl rfl ?_
  refine mm_getR dX7_trade_5 fl_X7_10 rfl (by assumption) (by assumption) ?_
  refine mm_Vv (N := mX3_draft) (ci := 3) (as := [_]) dX7_trade_8 lk_X7_37 okX3_draft (by decide) rfl (by decide) rfl (by assumption) rfl (by decide) (c_draft wH wE (by omega) hh hs0 hi) (fun J1 hq => ?_)
  obtain ⟨d1, d2⟩ := hq
  have hxn := hh.1
  have d3 := his_draft hh d2
  have d4 : est_at J1 (w + 1) s := est_fr hs0 (fun c c1 c2 => d2 c (by omega))
  have d5 : ot_at J1 (w + 261) ty x := ht.fr (d2 _ (by omega)) (d2 _ (by omega))
  have d6 : wf_fr w I J1 := fun c hc => d2 c (by omega)
  refine mm_aload_n dX7_trade_11 rfl rfl ?_
  refine mm_aload_n dX7_trade_12 rfl rfl ?_
  refine mm_getR dX7_trade_13 fl_X7_10 rfl (by assumption) (by assumption) ?_
  refine mm_iload_n dX7_trade_16 rfl rfl ?_
  refine mm_iload_n dX7_trade_17 rfl rfl ?_
  refine mm_iload_n dX7_trade_18 rfl rfl ?_
  refine mm_iload dX7_trade_19 rfl ?_
  refine mm_iload dX7_trade_21 rfl ?_
  refine mm_Vi (N := mX2_tradeFutures) (ci := 2) (as := [_, _, _, _, _]) dX7_trade_23 lk_X7_69 okX2_tradeFutures (by decide) rfl (by decide) rfl (by assumption) rfl (by first | decide | (simp [Value.category])) (c_tradeFutures wE d4 hi) (fun r2 J2 hq => ?_)
  obtain ⟨rfl, e1, e2⟩ := hq
  have e3 := d3.fr (J := J2) (fun c c1 c2 => e2 c (by omega))
  have e4 := est_fr (J := J2) d1 (fun c c1 c2 => e2 c (by omega))
  have e5 : ot_at J2 (w + 261) ty x := d5.fr (e2 _ (by omega)) (e2 _ (by omega))
  have e6 : wf_fr w I J2 := d6.tr (fun c hc => e2 c (by omega))
  refine mm_Vi (N := mX7_settled) (ci := 7) (as := [_]) dX7_trade_26 lk_X7_45 okX7_settled (by decide) rfl (by decide) rfl (by assumption) rfl (by decide) (c_settled hW0 e3.2.2.1 e3.2.2.2.1 e3.1 e3.2.1) (fun r3 J3 hq => ?_)
  obtain ⟨rfl, g1, g2⟩ := hq
  refine mm_iret dX7_trade_29 rfl ?_
  refine ⟨rfl, _, rfl, rfl, ?_, fun z => ?_, fun z => ?_⟩
  · by_cases z : 0 ≤ (sp_trade s a0 a1 a2 a3 a4).1
    · rw [g1 z]
      exact e6.tr (fun c hc => by rw [mm_wr_row (by omega), mm_wr_row (by omega)])
    · rw [g2 z]; exact e6
  · rw [g1 z]
    exact ⟨est_fr e1 (fun c c1 c2 => by rw [mm_wr_row (by omega), mm_wr_row (by omega)]), his_keep e3 e4 (fun c hc => by rw [mm_wr_row hc, mm_wr_row hc]) ((mm_wr_k (by omega)).trans mm_wr_s) mm_wr_s, e5.fr (by rw [mm_wr_row (by omega), mm_wr_row (by omega)]) (by rw [mm_wr_row (by omega), mm_wr_row (by omega)])⟩
  · rw [g2 z]
    exact ⟨e1, e3, e5⟩
set_option maxRecDepth 100000 in
set_option maxHeartbeats 4000000 in
theorem c_redeem {S : mm_S} {I : mm_I} {w nx n ty : Nat} {hs : Nat → Nat → Int32} {x : Nat → Nat} {s : Nat → Int32} {a0 a1 a2 : Int32} (hW : mm_wine S w) (hA : wf_at I w s nx n hs ty x) (hi : Inv s) : mm_ci mX7_redeem [.ref w, .int a0, .int a1, .int a2] S I (wf_Q w I s nx n hs ty x (sp_redeem s a0 a1 a2)) := by
  have hW0 := hW
  obtain ⟨wk, wp0, wp1, wp2, wp3, wE, wH, wO, wT⟩ := hW
  have wEk : (S.2.1 (w + 1)).1 = 2 := wE.1
  have wHk : (S.2.1 (w + 44)).1 = 3 := wH.1
  have wOk : (S.2.1 (w + 261)).1 = 5 := wO.1
  have wTk : (S.2.1 (w + 264)).1 = 6 := wT.1
  obtain ⟨hs0, hh, ht⟩ := hA
  refine mm_ci.of okX7_redeem rfl (Nat.le_of_ble_eq_true rfl) (lv := [(0, .ref w), (1, .int a0), (2, .int a1), (3, .int a2)]) rfl ?_
  refine mm_aload_n dX7_redeem_0 rfl rfl ?_
  refine mm_getR dX7_redeem_1 fl_X7_19 rfl (by assumption) (by assumption) ?_
  refine mm_aload_n dX7_redeem_4 rfl rfl ?_
  refine mm_getR dX7_redeem_5 fl_X7_10 rfl (by assumption) (by assumption) ?_
  refine mm_Vv (N := mX3_draft) (ci := 3) (as := [_]) dX7_redeem_8 lk_X7_37 okX3_draft (by decide) rfl (by decide) rfl (by assumption) rfl (by decide) (c_draft wH wE (by omega) hh hs0 hi) (fun J1 hq => ?_)
  obtain ⟨d1, d2⟩ := hq
  have hxn := hh.1
  have d3 := his_draft hh d2
  have d4 : est_at J1 (w + 1) s := est_fr hs0 (fun c c1 c2 => d2 c (by omega))
  have d5 : ot_at J1 (w + 261) ty x := ht.fr (d2 _ (by omega)) (d2 _ (by omega))
  have d6 : wf_fr w I J1 := fun c hc => d2 c (by omega)
  refine mm_aload_n dX7_redeem_11 rfl rfl ?_
  refine mm_aload_n dX7_redeem_12 rfl rfl ?_
  refine mm_getR dX7_redeem_13 fl_X7_10 rfl (by assumption) (by assumption) ?_
  refine mm_iload_n dX7_redeem_16 rfl rfl ?_
  refine mm_iload_n dX7_redeem_17 rfl rfl ?_
  refine mm_iload_n dX7_redeem_18 rfl rfl ?_
  refine mm_Vi (N := mX2_redeemFutures) (ci := 2) (as := [_, _, _]) dX7_redeem_19 lk_X7_73 okX2_redeemFutures (by decide) rfl (by decide) rfl (by assumption) rfl (by first | decide | (simp [Value.category])) (c_redeemFutures wE d4 hi) (fun r2 J2 hq => ?_)
  obtain ⟨rfl, e1, e2⟩ := hq
  have e3 := d3.fr (J := J2) (fun c c1 c2 => e2 c (by omega))
  have e4 := est_fr (J := J2) d1 (fun c c1 c2 => e2 c (by omega))
  have e5 : ot_at J2 (w + 261) ty x := d5.fr (e2 _ (by omega)) (e2 _ (by omega))
  have e6 : wf_fr w I J2 := d6.tr (fun c hc => e2 c (by omega))
  refine mm_Vi (N := mX7_settled) (ci := 7) (as := [_]) dX7_redeem_22 lk_X7_45 okX7_settled (by decide) rfl (by decide) rfl (by assumption) rfl (by decide) (c_settled hW0 e3.2.2.1 e3.2.2.2.1 e3.1 e3.2.1) (fun r3 J3 hq => ?_)
  obtain ⟨rfl, g1, g2⟩ := hq
  refine mm_iret dX7_redeem_25 rfl ?_
  refine ⟨rfl, _, rfl, rfl, ?_, fun z => ?_, fun z => ?_⟩
  · by_cases z : 0 ≤ (sp_redeem s a0 a1 a2).1
    · rw [g1 z]
      exact e6.tr (fun c hc => by rw [mm_wr_row (by omega), mm_wr_row (by omega)])
    · rw [g2 z]; exact e6
  · rw [g1 z]
    exact ⟨est_fr e1 (fun c c1 c2 => by rw [mm_wr_row (by omega), mm_wr_row (by omega)]), his_keep e3 e4 (fun c hc => by rw [mm_wr_row hc, mm_wr_row hc]) ((mm_wr_k (by omega)).trans mm_wr_s) mm_wr_s, e5.fr (by rw [mm_wr_row (by omega), mm_wr_row (by omega)]) (by rw [mm_wr_row (by omega), mm_wr_row (by omega)])⟩
  · rw [g2 z]
    exact ⟨e1, e3, e5⟩
set_option maxRecDepth 100000 in
set_option maxHeartbeats 4000000 in
theorem c_set {S : mm_S} {I : mm_I} {w nx n ty : Nat} {hs : Nat → Nat → Int32} {x : Nat → Nat} {s : Nat → Int32} {a0 a1 : Int32} (hW : mm_wine S w) (hA : wf_at I w s nx n hs ty x) (hi : Inv s) : mm_ci mX7_set [.ref w, .int a0, .int a1] S I (wf_Q w I s nx n hs ty x (sp_set s a0 a1)) := by
  have hW0 := hW
  obtain ⟨wk, wp0, wp1, wp2, wp3, wE, wH, wO, wT⟩ := hW
  have wEk : (S.2.1 (w + 1)).1 = 2 := wE.1
  have wHk : (S.2.1 (w + 44)).1 = 3 := wH.1
  have wOk : (S.2.1 (w + 261)).1 = 5 := wO.1
  have wTk : (S.2.1 (w + 264)).1 = 6 := wT.1
  obtain ⟨hs0, hh, ht⟩ := hA
  refine mm_ci.of okX7_set rfl (Nat.le_of_ble_eq_true rfl) (lv := [(0, .ref w), (1, .int a0), (2, .int a1)]) rfl ?_
  refine mm_aload_n dX7_set_0 rfl rfl ?_
  refine mm_getR dX7_set_1 fl_X7_19 rfl (by assumption) (by assumption) ?_
  refine mm_aload_n dX7_set_4 rfl rfl ?_
  refine mm_getR dX7_set_5 fl_X7_10 rfl (by assumption) (by assumption) ?_
  refine mm_Vv (N := mX3_draft) (ci := 3) (as := [_]) dX7_set_8 lk_X7_37 okX3_draft (by decide) rfl (by decide) rfl (by assumption) rfl (by decide) (c_draft wH wE (by omega) hh hs0 hi) (fun J1 hq => ?_)
  obtain ⟨d1, d2⟩ := hq
  have hxn := hh.1
  have d3 := his_draft hh d2
  have d4 : est_at J1 (w + 1) s := est_fr hs0 (fun c c1 c2 => d2 c (by omega))
  have d5 : ot_at J1 (w + 261) ty x := ht.fr (d2 _ (by omega)) (d2 _ (by omega))
  have d6 : wf_fr w I J1 := fun c hc => d2 c (by omega)
  refine mm_aload_n dX7_set_11 rfl rfl ?_
  refine mm_aload_n dX7_set_12 rfl rfl ?_
  refine mm_getR dX7_set_13 fl_X7_10 rfl (by assumption) (by assumption) ?_
  refine mm_iload_n dX7_set_16 rfl rfl ?_
  refine mm_iload_n dX7_set_17 rfl rfl ?_
  refine mm_Vi (N := mX2_changeSetting) (ci := 2) (as := [_, _]) dX7_set_18 lk_X7_77 okX2_changeSetting (by decide) rfl (by decide) rfl (by assumption) rfl (by first | decide | (simp [Value.category])) (c_changeSetting wE d4 hi) (fun r2 J2 hq => ?_)
  obtain ⟨rfl, e1, e2⟩ := hq
  have e3 := d3.fr (J := J2) (fun c c1 c2 => e2 c (by omega))
  have e4 := est_fr (J := J2) d1 (fun c c1 c2 => e2 c (by omega))
  have e5 : ot_at J2 (w + 261) ty x := d5.fr (e2 _ (by omega)) (e2 _ (by omega))
  have e6 : wf_fr w I J2 := d6.tr (fun c hc => e2 c (by omega))
  refine mm_Vi (N := mX7_settled) (ci := 7) (as := [_]) dX7_set_21 lk_X7_45 okX7_settled (by decide) rfl (by decide) rfl (by assumption) rfl (by decide) (c_settled hW0 e3.2.2.1 e3.2.2.2.1 e3.1 e3.2.1) (fun r3 J3 hq => ?_)
  obtain ⟨rfl, g1, g2⟩ := hq
  refine mm_iret dX7_set_24 rfl ?_
  refine ⟨rfl, _, rfl, rfl, ?_, fun z => ?_, fun z => ?_⟩
  · by_cases z : 0 ≤ (sp_set s a0 a1).1
    · rw [g1 z]
      exact e6.tr (fun c hc => by rw [mm_wr_row (by omega), mm_wr_row (by omega)])
    · rw [g2 z]; exact e6
  · rw [g1 z]
    exact ⟨est_fr e1 (fun c c1 c2 => by rw [mm_wr_row (by omega), mm_wr_row (by omega)]), his_keep e3 e4 (fun c hc => by rw [mm_wr_row hc, mm_wr_row hc]) ((mm_wr_k (by omega)).trans mm_wr_s) mm_wr_s, e5.fr (by rw [mm_wr_row (by omega), mm_wr_row (by omega)]) (by rw [mm_wr_row (by omega), mm_wr_row (by omega)])⟩
  · rw [g2 z]
    exact ⟨e1, e3, e5⟩
