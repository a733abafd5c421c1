/-! THE CLASS: WineFutures, the questions, undo and the text -/
def wf_A (w : Nat) (I : mm_I) (s : Nat → Int32) (nx n : Nat) (hs : Nat → Nat → Int32) (ty : Nat) (x : Nat → Nat) (a : Int32) : Int32 → mm_I → Prop := fun q J => q = a ∧ wf_at J w s nx n hs ty x ∧ wf_fr w I J
theorem wf_A.fc {w nx n ty : Nat} {I J : mm_I} {hs : Nat → Nat → Int32} {x : Nat → Nat} {s : Nat → Int32} {a q : Int32} (hA : wf_at I w s nx n hs ty x) (h : e_A (w + 1) I s a q J) : wf_A w I s nx n hs ty x a q J :=
  ⟨h.1, ⟨h.2.1, hA.2.1.fr (fun c c1 c2 => h.2.2 c (by omega) (by omega)), hA.2.2.fr (h.2.2 _ (by omega) (by omega)) (h.2.2 _ (by omega) (by omega))⟩, fun c hc => h.2.2 c (by omega) (by omega)⟩

set_option maxRecDepth 100000 in
set_option maxHeartbeats 4000000 in
theorem c_lotOf {S : mm_S} {I : mm_I} {w nx n ty : Nat} {hs : Nat → Nat → Int32} {x : Nat → Nat} {s : Nat → Int32} {a0 a1 : Int32} (hW : mm_wine S w) (hA : wf_at I w s nx n hs ty x) (hi : Inv s) : mm_ci mX7_lotOf [.ref w, .int a0, .int a1] S I (wf_A w I s nx n hs ty x (sq_lotOf s a0 a1)) := by
  obtain ⟨wk, wp0, wp1, wp2, wp3, wE, wH, wO, wT⟩ := hW
  have wEk : (S.2.1 (w + 1)).1 = 2 := wE.1
  have wHk : (S.2.1 (w + 44)).1 = 3 := wH.1
  have wOk : (S.2.1 (w + 261)).1 = 5 := wO.1
  have wTk : (S.2.1 (w + 264)).1 = 6 := wT.1
  refine mm_ci.of okX7_lotOf rfl (Nat.le_of_ble_eq_true rfl) (lv := [(0, .ref w), (1, .int a0), (2, .int a1)]) rfl ?_
  refine mm_aload_n dX7_lotOf_0 rfl rfl ?_
  refine mm_getR dX7_lotOf_1 fl_X7_10 rfl (by assumption) (by assumption) ?_
  refine mm_iload_n dX7_lotOf_4 rfl rfl ?_
  refine mm_iload_n dX7_lotOf_5 rfl rfl ?_
  refine mm_Vi (N := mX2_lotValue) (ci := 2) (as := [_, _]) dX7_lotOf_6 lk_X7_80 okX2_lotValue (by decide) rfl (by decide) rfl (by assumption) rfl (by decide) (c_lotValue wE hA.1 hi) (fun r2 J2 hq => ?_)
  obtain ⟨rfl, hJ⟩ := hq
  subst J2
  refine mm_iret dX7_lotOf_9 rfl ?_
  exact ⟨rfl, _, rfl, rfl, hA, wf_fr.rf⟩
set_option maxRecDepth 100000 in
set_option maxHeartbeats 4000000 in
theorem c_barrel {S : mm_S} {I : mm_I} {w nx n ty : Nat} {hs : Nat → Nat → Int32} {x : Nat → Nat} {s : Nat → Int32} {a0 a1 : Int32} (hW : mm_wine S w) (hA : wf_at I w s nx n hs ty x) (hi : Inv s) : mm_ci mX7_barrel [.ref w, .int a0, .int a1] S I (wf_A w I s nx n hs ty x (sq_barrel s a0 a1)) := by
  obtain ⟨wk, wp0, wp1, wp2, wp3, wE, wH, wO, wT⟩ := hW
  have wEk : (S.2.1 (w + 1)).1 = 2 := wE.1
  have wHk : (S.2.1 (w + 44)).1 = 3 := wH.1
  have wOk : (S.2.1 (w + 261)).1 = 5 := wO.1
  have wTk : (S.2.1 (w + 264)).1 = 6 := wT.1
  refine mm_ci.of okX7_barrel rfl (Nat.le_of_ble_eq_true rfl) (lv := [(0, .ref w), (1, .int a0), (2, .int a1)]) rfl ?_
  refine mm_aload_n dX7_barrel_0 rfl rfl ?_
  refine mm_getR dX7_barrel_1 fl_X7_10 rfl (by assumption) (by assumption) ?_
  refine mm_iload_n dX7_barrel_4 rfl rfl ?_
  refine mm_iload_n dX7_barrel_5 rfl rfl ?_
  refine mm_Vi (N := mX2_barrelValue) (ci := 2) (as := [_, _]) dX7_barrel_6 lk_X7_83 okX2_barrelValue (by decide) rfl (by decide) rfl (by assumption) rfl (by decide) (c_barrelValue wE hA.1 hi) (fun r2 J2 hq => ?_)
  obtain ⟨rfl, hJ⟩ := hq
  subst J2
  refine mm_iret dX7_barrel_9 rfl ?_
  exact ⟨rfl, _, rfl, rfl, hA, wf_fr.rf⟩
set_option maxRecDepth 100000 in
set_option maxHeartbeats 4000000 in
theorem c_holding {S : mm_S} {I : mm_I} {w nx n ty : Nat} {hs : Nat → Nat → Int32} {x : Nat → Nat} {s : Nat → Int32} {a0 a1 a2 : Int32} (hF : flH) (hB : flB) (hW : mm_wine S w) (hA : wf_at I w s nx n hs ty x) (hi : Inv s) : mm_ci mX7_holding [.ref w, .int a0, .int a1, .int a2] S I (wf_A w I s nx n hs ty x (sq_holding s a0 a1 a2)) := by
  obtain ⟨wk, wp0, wp1, wp2, wp3, wE, wH, wO, wT⟩ := hW
  have wEk : (S.2.1 (w + 1)).1 = 2 := wE.1
  have wHk : (S.2.1 (w + 44)).1 = 3 := wH.1
  have wOk : (S.2.1 (w + 261)).1 = 5 := wO.1
  have wTk : (S.2.1 (w + 264)).1 = 6 := wT.1
  refine mm_ci.of okX7_holding rfl (Nat.le_of_ble_eq_true rfl) (lv := [(0, .ref w), (1, .int a0), (2, .int a1), (3, .int a2)]) rfl ?_
  refine mm_aload_n dX7_holding_0 rfl rfl ?_
  refine mm_getR dX7_holding_1 fl_X7_10 rfl (by assumption) (by assumption) ?_
  refine mm_iload_n dX7_holding_4 rfl rfl ?_
  refine mm_iload_n dX7_holding_5 rfl rfl ?_
  refine mm_iload_n dX7_holding_6 rfl rfl ?_
  refine mm_Vi (N := mX2_holdingValue) (ci := 2) (as := [_, _, _]) dX7_holding_7 lk_X7_86 okX2_holdingValue (by decide) rfl (by decide) rfl (by assumption) rfl (by decide) (c_holdingValue hF hB wE hA.1 hi) (fun r2 J2 hq => ?_)
  obtain ⟨rfl, hJ⟩ := hq
  subst J2
  refine mm_iret dX7_holding_10 rfl ?_
  exact ⟨rfl, _, rfl, rfl, hA, wf_fr.rf⟩
set_option maxRecDepth 100000 in
set_option maxHeartbeats 4000000 in
theorem c_account {S : mm_S} {I : mm_I} {w nx n ty : Nat} {hs : Nat → Nat → Int32} {x : Nat → Nat} {s : Nat → Int32} {a0 : Int32} (hW : mm_wine S w) (hA : wf_at I w s nx n hs ty x) (hi : Inv s) : mm_ci mX7_account [.ref w, .int a0] S I (wf_A w I s nx n hs ty x (sq_account s a0)) := by
  obtain ⟨wk, wp0, wp1, wp2, wp3, wE, wH, wO, wT⟩ := hW
  have wEk : (S.2.1 (w + 1)).1 = 2 := wE.1
  have wHk : (S.2.1 (w + 44)).1 = 3 := wH.1
  have wOk : (S.2.1 (w + 261)).1 = 5 := wO.1
  have wTk : (S.2.1 (w + 264)).1 = 6 := wT.1
  refine mm_ci.of okX7_account rfl (Nat.le_of_ble_eq_true rfl) (lv := [(0, .ref w), (1, .int a0)]) rfl ?_
  refine mm_aload_n dX7_account_0 rfl rfl ?_
  refine mm_getR dX7_account_1 fl_X7_10 rfl (by assumption) (by assumption) ?_
  refine mm_iload_n dX7_account_4 rfl rfl ?_
  refine mm_Vi (N := mX2_accountValue) (ci := 2) (as := [_]) dX7_account_5 lk_X7_89 okX2_accountValue (by decide) rfl (by decide) rfl (by assumption) rfl (by decide) (c_accountValue wE hA.1 hi) (fun r2 J2 hq => ?_)
  obtain ⟨rfl, hJ⟩ := hq
  subst J2
  refine mm_iret dX7_account_8 rfl ?_
  exact ⟨rfl, _, rfl, rfl, hA, wf_fr.rf⟩
set_option maxRecDepth 100000 in
set_option maxHeartbeats 4000000 in
theorem c_entry {S : mm_S} {I : mm_I} {w nx n ty : Nat} {hs : Nat → Nat → Int32} {x : Nat → Nat} {s : Nat → Int32} {a0 a1 : Int32} (hW : mm_wine S w) (hA : wf_at I w s nx n hs ty x) (hi : Inv s) : mm_ci mX7_entry [.ref w, .int a0, .int a1] S I (wf_A w I s nx n hs ty x (sq_entry s a0 a1)) := by
  obtain ⟨wk, wp0, wp1, wp2, wp3, wE, wH, wO, wT⟩ := hW
  have wEk : (S.2.1 (w + 1)).1 = 2 := wE.1
  have wHk : (S.2.1 (w + 44)).1 = 3 := wH.1
  have wOk : (S.2.1 (w + 261)).1 = 5 := wO.1
  have wTk : (S.2.1 (w + 264)).1 = 6 := wT.1
  have wbk : (S.2.1 (w + 1 + 3)).1 = 1 := by
    obtain ⟨ek, ep0, ep1, ep2, ep3, ek1, ek2, ebk, ebar, elots⟩ := wE
    exact ebk.1
  have wbp : S.2.2 (w + 1) 2 = some (w + 1 + 3) := by
    obtain ⟨ek, ep0, ep1, ep2, ep3, ek1, ek2, ebk, ebar, elots⟩ := wE
    exact ep2
  refine mm_ci.of okX7_entry rfl (Nat.le_of_ble_eq_true rfl) (lv := [(0, .ref w), (1, .int a0), (2, .int a1)]) rfl ?_
  refine mm_aload_n dX7_entry_0 rfl rfl ?_
  refine mm_getR dX7_entry_1 fl_X7_10 rfl (by assumption) (by assumption) ?_
  refine mm_getR dX7_entry_4 fl_X7_92 rfl (by assumption) (by assumption) ?_
  refine mm_iload_n dX7_entry_7 rfl rfl ?_
  refine mm_iload_n dX7_entry_8 rfl rfl ?_
  refine mm_Vi (N := mX1_cell) (ci := 1) (as := [_, _]) dX7_entry_9 lk_X7_96 okX1_cell (by decide) rfl (by decide) rfl (by assumption) rfl (by decide) (c_cellE wE hA.1 hi) (fun r2 J2 hq => ?_)
  obtain ⟨rfl, hJ⟩ := hq
  subst J2
  refine mm_iret dX7_entry_12 rfl ?_
  exact ⟨rfl, _, rfl, rfl, hA, wf_fr.rf⟩
set_option maxRecDepth 100000 in
set_option maxHeartbeats 4000000 in
theorem c_cases {S : mm_S} {I : mm_I} {w nx n ty : Nat} {hs : Nat → Nat → Int32} {x : Nat → Nat} {s : Nat → Int32} {a0 a1 : Int32} (hW : mm_wine S w) (hA : wf_at I w s nx n hs ty x) (hi : Inv s) : mm_ci mX7_cases [.ref w, .int a0, .int a1] S I (wf_A w I s nx n hs ty x (sq_cases s a0 a1)) := by
  obtain ⟨wk, wp0, wp1, wp2, wp3, wE, wH, wO, wT⟩ := hW
  have wEk : (S.2.1 (w + 1)).1 = 2 := wE.1
  have wHk : (S.2.1 (w + 44)).1 = 3 := wH.1
  have wOk : (S.2.1 (w + 261)).1 = 5 := wO.1
  have wTk : (S.2.1 (w + 264)).1 = 6 := wT.1
  refine mm_ci.of okX7_cases rfl (Nat.le_of_ble_eq_true rfl) (lv := [(0, .ref w), (1, .int a0), (2, .int a1)]) rfl ?_
  refine mm_aload_n dX7_cases_0 rfl rfl ?_
  refine mm_getR dX7_cases_1 fl_X7_10 rfl (by assumption) (by assumption) ?_
  refine mm_iload_n dX7_cases_4 rfl rfl ?_
  refine mm_iload_n dX7_cases_5 rfl rfl ?_
  refine mm_Vi (N := mX2_forecastCases) (ci := 2) (as := [_, _]) dX7_cases_6 lk_X7_101 okX2_forecastCases (by decide) rfl (by decide) rfl (by assumption) rfl (by decide) (c_forecastCases wE hA.1 hi) (fun r2 J2 hq => ?_)
  obtain ⟨rfl, hJ⟩ := hq
  subst J2
  refine mm_iret dX7_cases_9 rfl ?_
  exact ⟨rfl, _, rfl, rfl, hA, wf_fr.rf⟩
set_option maxRecDepth 100000 in
set_option maxHeartbeats 4000000 in
theorem c_sellable {S : mm_S} {I : mm_I} {w nx n ty : Nat} {hs : Nat → Nat → Int32} {x : Nat → Nat} {s : Nat → Int32} {a0 : Int32} (hW : mm_wine S w) (hA : wf_at I w s nx n hs ty x) (hi : Inv s) : mm_ci mX7_sellable [.ref w, .int a0] S I (wf_A w I s nx n hs ty x (sq_sellable s a0)) := by
  obtain ⟨wk, wp0, wp1, wp2, wp3, wE, wH, wO, wT⟩ := hW
  have wEk : (S.2.1 (w + 1)).1 = 2 := wE.1
  have wHk : (S.2.1 (w + 44)).1 = 3 := wH.1
  have wOk : (S.2.1 (w + 261)).1 = 5 := wO.1
  have wTk : (S.2.1 (w + 264)).1 = 6 := wT.1
  refine mm_ci.of okX7_sellable rfl (Nat.le_of_ble_eq_true rfl) (lv := [(0, .ref w), (1, .int a0)]) rfl ?_
  refine mm_aload_n dX7_sellable_0 rfl rfl ?_
  refine mm_getR dX7_sellable_1 fl_X7_10 rfl (by assumption) (by assumption) ?_
  refine mm_iload_n dX7_sellable_4 rfl rfl ?_
  refine mm_Vi (N := mX2_sellableFutures) (ci := 2) (as := [_]) dX7_sellable_5 lk_X7_104 okX2_sellableFutures (by decide) rfl (by decide) rfl (by assumption) rfl (by decide) (c_sellableFutures wE hA.1 hi) (fun r2 J2 hq => ?_)
  obtain ⟨rfl, hJ⟩ := hq
  subst J2
  refine mm_iret dX7_sellable_8 rfl ?_
  exact ⟨rfl, _, rfl, rfl, hA, wf_fr.rf⟩
set_option maxRecDepth 100000 in
set_option maxHeartbeats 4000000 in
theorem c_deadline {S : mm_S} {I : mm_I} {w nx n ty : Nat} {hs : Nat → Nat → Int32} {x : Nat → Nat} {s : Nat → Int32} {a0 : Int32} (hW : mm_wine S w) (hA : wf_at I w s nx n hs ty x) (hi : Inv s) : mm_ci mX7_deadline [.ref w, .int a0] S I (wf_A w I s nx n hs ty x (sq_deadline s a0)) := by
  obtain ⟨wk, wp0, wp1, wp2, wp3, wE, wH, wO, wT⟩ := hW
  have wEk : (S.2.1 (w + 1)).1 = 2 := wE.1
  have wHk : (S.2.1 (w + 44)).1 = 3 := wH.1
  have wOk : (S.2.1 (w + 261)).1 = 5 := wO.1
  have wTk : (S.2.1 (w + 264)).1 = 6 := wT.1
  refine mm_ci.of okX7_deadline rfl (Nat.le_of_ble_eq_true rfl) (lv := [(0, .ref w), (1, .int a0)]) rfl ?_
  refine mm_aload_n dX7_deadline_0 rfl rfl ?_
  refine mm_getR dX7_deadline_1 fl_X7_10 rfl (by assumption) (by assumption) ?_
  refine mm_iload_n dX7_deadline_4 rfl rfl ?_
  refine mm_Vi (N := mX2_monthsUntilTooFew) (ci := 2) (as := [_]) dX7_deadline_5 lk_X7_107 okX2_monthsUntilTooFew (by decide) rfl (by decide) rfl (by assumption) rfl (by decide) (c_monthsUntilTooFew wE hA.1 hi) (fun r2 J2 hq => ?_)
  
  refine mm_iret dX7_deadline_8 rfl ?_
  exact ⟨rfl, _, rfl, wf_A.fc hA hq⟩
set_option maxRecDepth 100000 in
set_option maxHeartbeats 4000000 in
theorem c_topping {S : mm_S} {I : mm_I} {w nx n ty : Nat} {hs : Nat → Nat → Int32} {x : Nat → Nat} {s : Nat → Int32} {a0 : Int32} (hW : mm_wine S w) (hA : wf_at I w s nx n hs ty x) (hi : Inv s) : mm_ci mX7_topping [.ref w, .int a0] S I (wf_A w I s nx n hs ty x (sq_topping s a0)) := by
  obtain ⟨wk, wp0, wp1, wp2, wp3, wE, wH, wO, wT⟩ := hW
  have wEk : (S.2.1 (w + 1)).1 = 2 := wE.1
  have wHk : (S.2.1 (w + 44)).1 = 3 := wH.1
  have wOk : (S.2.1 (w + 261)).1 = 5 := wO.1
  have wTk : (S.2.1 (w + 264)).1 = 6 := wT.1
  refine mm_ci.of okX7_topping rfl (Nat.le_of_ble_eq_true rfl) (lv := [(0, .ref w), (1, .int a0)]) rfl ?_
  refine mm_aload_n dX7_topping_0 rfl rfl ?_
  refine mm_getR dX7_topping_1 fl_X7_10 rfl (by assumption) (by assumption) ?_
  refine mm_iload_n dX7_topping_4 rfl rfl ?_
  refine mm_Vi (N := mX2_gainByTopping) (ci := 2) (as := [_]) dX7_topping_5 lk_X7_110 okX2_gainByTopping (by decide) rfl (by decide) rfl (by assumption) rfl (by decide) (c_gainByTopping wE hA.1 hi) (fun r2 J2 hq => ?_)
  
  refine mm_iret dX7_topping_8 rfl ?_
  exact ⟨rfl, _, rfl, wf_A.fc hA hq⟩
set_option maxRecDepth 100000 in
set_option maxHeartbeats 4000000 in
theorem c_loser {S : mm_S} {I : mm_I} {w nx n ty : Nat} {hs : Nat → Nat → Int32} {x : Nat → Nat} {s : Nat → Int32} {a0 a1 : Int32} (hW : mm_wine S w) (hA : wf_at I w s nx n hs ty x) (hi : Inv s) : mm_ci mX7_loser [.ref w, .int a0, .int a1] S I (wf_A w I s nx n hs ty x (sq_loser s a0 a1)) := by
  obtain ⟨wk, wp0, wp1, wp2, wp3, wE, wH, wO, wT⟩ := hW
  have wEk : (S.2.1 (w + 1)).1 = 2 := wE.1
  have wHk : (S.2.1 (w + 44)).1 = 3 := wH.1
  have wOk : (S.2.1 (w + 261)).1 = 5 := wO.1
  have wTk : (S.2.1 (w + 264)).1 = 6 := wT.1
  refine mm_ci.of okX7_loser rfl (Nat.le_of_ble_eq_true rfl) (lv := [(0, .ref w), (1, .int a0), (2, .int a1)]) rfl ?_
  refine mm_aload_n dX7_loser_0 rfl rfl ?_
  refine mm_getR dX7_loser_1 fl_X7_10 rfl (by assumption) (by assumption) ?_
  refine mm_iload_n dX7_loser_4 rfl rfl ?_
  refine mm_iload_n dX7_loser_5 rfl rfl ?_
  refine mm_Vi (N := mX2_greatestLoss) (ci := 2) (as := [_, _]) dX7_loser_6 lk_X7_113 okX2_greatestLoss (by decide) rfl (by decide) rfl (by assumption) rfl (by decide) (c_greatestLoss wE hA.1 hi) (fun r2 J2 hq => ?_)
  
  refine mm_iret dX7_loser_9 rfl ?_
  exact ⟨rfl, _, rfl, wf_A.fc hA hq⟩
theorem lk_out2 {x : Int32} {a b z p q : Int} (h1 : ¬ x.toInt = a) (h2 : ¬ x.toInt = b) : Op.lookupswitch.offset [(a, p), (b, q)] z x.toInt = z := by
  show (if a = x.toInt then p else if b = x.toInt then q else z) = z
  rw [if_neg (fun q => h1 q.symm), if_neg (fun q => h2 q.symm)]
theorem int_lit {x y : Int32} (h : x.toInt = y.toInt) : x = y := Int32.toInt.inj h

set_option maxRecDepth 100000 in
set_option maxHeartbeats 4000000 in
theorem c_count {S : mm_S} {I : mm_I} {w nx n ty : Nat} {hs : Nat → Nat → Int32} {x : Nat → Nat} {s : Nat → Int32} {f : Int32} (hW : mm_wine S w) (hA : wf_at I w s nx n hs ty x) (hi : Inv s) : mm_ci mX7_count [.ref w, .int f] S I (wf_A w I s nx n hs ty x (sq_count s (nI n) (nI ty) f)) := by
  obtain ⟨wk, wp0, wp1, wp2, wp3, wE, wH, wO, wT⟩ := hW
  have wEk : (S.2.1 (w + 1)).1 = 2 := wE.1
  have wHk : (S.2.1 (w + 44)).1 = 3 := wH.1
  have wOk : (S.2.1 (w + 261)).1 = 5 := wO.1
  have wTk : (S.2.1 (w + 264)).1 = 6 := wT.1
  refine mm_ci.of okX7_count rfl (Nat.le_of_ble_eq_true rfl) (lv := [(0, .ref w), (1, .int f)]) rfl ?_
  refine mm_iload_n dX7_count_0 rfl rfl ?_
  by_cases e10 : f = nI 10
  · subst e10
    refine mm_lookup (off := 27) 28 dX7_count_1 (by decide) (by decide) (by decide) ?_
    refine mm_aload_n dX7_count_28 rfl rfl ?_
    refine mm_getR dX7_count_29 fl_X7_19 rfl (by assumption) (by assumption) ?_
    refine mm_getI dX7_count_32 fl_X7_116 rfl (by assumption) ?_
    refine mm_tope (y := nI n) hA.2.1.2.2.2.1 ?_
    refine mm_iret dX7_count_35 rfl ?_
    first
      | exact ⟨rfl, _, rfl, (cnt_in (by decide)).symm, hA, wf_fr.rf⟩
      | exact ⟨rfl, _, rfl, rfl, hA, wf_fr.rf⟩
  · skip
    by_cases e11 : f = nI 11
    · subst e11
      refine mm_lookup (off := 35) 36 dX7_count_1 (by decide) (by decide) (by decide) ?_
      refine mm_aload_n dX7_count_36 rfl rfl ?_
      refine mm_getR dX7_count_37 fl_X7_26 rfl (by assumption) (by assumption) ?_
      refine mm_getI dX7_count_40 fl_X7_120 rfl (by assumption) ?_
      refine mm_tope (y := nI ty) hA.2.2.1 ?_
      refine mm_iret dX7_count_43 rfl ?_
      first
        | exact ⟨rfl, _, rfl, (cnt_in (by decide)).symm, hA, wf_fr.rf⟩
        | exact ⟨rfl, _, rfl, rfl, hA, wf_fr.rf⟩
    · skip
      refine mm_lookup (off := 43) 44 dX7_count_1 (by decide) (lk_out2 (fun q => e10 (int_lit q)) (fun q => e11 (int_lit q))) (by decide) ?_
      refine mm_aload_n dX7_count_44 rfl rfl ?_
      refine mm_getR dX7_count_45 fl_X7_10 rfl (by assumption) (by assumption) ?_
      refine mm_iload_n dX7_count_48 rfl rfl ?_
      refine mm_Vi (N := mX2_number) (ci := 2) (as := [_]) dX7_count_49 lk_X7_123 okX2_number (by decide) rfl (by decide) rfl (by assumption) rfl (by decide) (c_number (p := nI n) (t := nI ty) e10 e11 wE hA.1 hi) (fun r2 J2 hq => ?_)
      obtain ⟨rfl, hJ⟩ := hq
      subst J2
      refine mm_iret dX7_count_52 rfl ?_
      first
        | exact ⟨rfl, _, rfl, (cnt_in (by decide)).symm, hA, wf_fr.rf⟩
        | exact ⟨rfl, _, rfl, rfl, hA, wf_fr.rf⟩
set_option maxRecDepth 100000 in
set_option maxHeartbeats 4000000 in
theorem c_undo {S : mm_S} {I : mm_I} {w nx n ty : Nat} {hs : Nat → Nat → Int32} {x : Nat → Nat} {s : Nat → Int32} (hW : mm_wine S w) (hA : wf_at I w s nx n hs ty x) (hI : ∀ i, i < n → Inv (hs i)) : mm_ci mX7_undo [.ref w] S I (fun q J => if n = 0 then q = -2000000002 ∧ J = I else q = nI (n - 1) ∧ wf_at J w (hs (n - 1)) (nxDn nx) (n - 1) hs ty x ∧ wf_fr w I J) := by
  obtain ⟨wk, wp0, wp1, wp2, wp3, wE, wH, wO, wT⟩ := hW
  have wEk : (S.2.1 (w + 1)).1 = 2 := wE.1
  have wHk : (S.2.1 (w + 44)).1 = 3 := wH.1
  have wOk : (S.2.1 (w + 261)).1 = 5 := wO.1
  have wTk : (S.2.1 (w + 264)).1 = 6 := wT.1
  refine mm_ci.of okX7_undo rfl (Nat.le_of_ble_eq_true rfl) (lv := [(0, .ref w)]) rfl ?_
  refine mm_aload_n dX7_undo_0 rfl rfl ?_
  refine mm_getR dX7_undo_1 fl_X7_19 rfl (by assumption) (by assumption) ?_
  refine mm_aload_n dX7_undo_4 rfl rfl ?_
  refine mm_getR dX7_undo_5 fl_X7_10 rfl (by assumption) (by assumption) ?_
  refine mm_Vi (N := mX3_restore) (ci := 3) (as := [_]) dX7_undo_8 lk_X7_126 okX3_restore (by decide) rfl (by decide) rfl (by assumption) rfl (by decide) (c_restore wH wE (by omega) hA.2.1 hI) (fun r2 J2 hq => ?_)
  refine mm_iret dX7_undo_11 rfl ?_
  by_cases z : n = 0
  · have hq2 := Eq.mp (if_pos z) hq
    exact ⟨rfl, _, rfl, Eq.mpr (if_pos z) hq2⟩
  · have hq2 := Eq.mp (if_neg z) hq
    exact ⟨rfl, _, rfl, Eq.mpr (if_neg z) ⟨hq2.1, ⟨hq2.2.1, hq2.2.2.1, hA.2.2.fr (hq2.2.2.2 _ (by omega) (by omega)) (hq2.2.2.2 _ (by omega) (by omega))⟩, fun c hc => hq2.2.2.2 c (by omega) (by omega)⟩⟩
/-- a sign more -/
def txP (ty : Nat) (x : Nat → Nat) (c : Nat) : Nat → Nat := fun p => if p = ty then c else x p

set_option maxRecDepth 100000 in
set_option maxHeartbeats 4000000 in
theorem c_type {S : mm_S} {I : mm_I} {w nx n ty : Nat} {hs : Nat → Nat → Int32} {x : Nat → Nat} {s : Nat → Int32} {c : Int32} (hW : mm_wine S w) (hA : wf_at I w s nx n hs ty x) : mm_ci mX7_type [.ref w, .int c] S I (fun q J => wf_fr w I J ∧ if ¬ (32 ≤ c ∧ c ≤ 126) then q = -2000000001 ∧ wf_at J w s nx n hs ty x else if ty = 60 then q = -2000000003 ∧ wf_at J w s nx n hs ty x else q = nI (ty + 1) ∧ wf_at J w s nx n hs (ty + 1) (txP ty x c.toNatClampNeg)) := by
  obtain ⟨wk, wp0, wp1, wp2, wp3, wE, wH, wO, wT⟩ := hW
  have wEk : (S.2.1 (w + 1)).1 = 2 := wE.1
  have wHk : (S.2.1 (w + 44)).1 = 3 := wH.1
  have wOk : (S.2.1 (w + 261)).1 = 5 := wO.1
  have wTk : (S.2.1 (w + 264)).1 = 6 := wT.1
  have hty := hA.2.2.2.1
  refine mm_ci.of okX7_type rfl (Nat.le_of_ble_eq_true rfl) (lv := [(0, .ref w), (1, .int c)]) rfl ?_
  refine mm_aload_n dX7_type_0 rfl rfl ?_
  refine mm_getR dX7_type_1 fl_X7_26 rfl (by assumption) (by assumption) ?_
  refine mm_iload_n dX7_type_4 rfl rfl ?_
  refine mm_Vi (N := mX5_append) (ci := 5) (as := [_]) dX7_type_5 lk_X7_130 okX5_append (by decide) rfl (by decide) rfl (by assumption) rfl (by decide) (c_append wO hA.2.2.1 hty) (fun r2 J2 hq => ?_)
  refine mm_iret dX7_type_8 rfl ?_
  by_cases z1 : 32 ≤ c ∧ c ≤ 126
  · have hq2 := Eq.mp (if_neg (fun q => q z1)) hq
    by_cases z2 : ty = 60
    · obtain ⟨rfl, hJ⟩ := Eq.mp (if_pos z2) hq2
      subst hJ
      exact ⟨rfl, _, rfl, wf_fr.rf, Eq.mpr ((if_neg (fun q => q z1)).trans (if_pos z2)) ⟨rfl, hA⟩⟩
    · obtain ⟨rfl, hJ⟩ := Eq.mp (if_neg z2) hq2
      subst hJ
      obtain ⟨C, hC, rfl, hCc⟩ := int_n (n := 126) rfl (by omega) ⟨Int32.le_trans (by decide) z1.1, z1.2⟩
      have hC32 : 32 ≤ C := (nI_leI (a := 32) (by omega) (by omega)).mp z1.1
      have hfr : ∀ d, d ≠ w + 261 → d ≠ w + 261 + 1 → mm_wr (mm_wr I (w + 261 + 1) ty (nI C)) (w + 261) 2 (nI (ty + 1)) d = I d := fun d h1 h2 => by rw [mm_wr_row h1, mm_wr_row h2]
      refine ⟨rfl, _, rfl, fun d hd => hfr d (by omega) (by omega), Eq.mpr ((if_neg (fun q => q z1)).trans (if_neg z2)) ⟨rfl, est_fr hA.1 (fun d h1 h2 => hfr d (by omega) (by omega)), hA.2.1.fr (fun d h1 h2 => hfr d (by omega) (by omega)), mm_wr_s, by omega, fun p hp => ?_⟩⟩
      rw [hCc, mm_wr_row (by omega)]
      show _ = nI (if p = ty then C else x p) ∧ 32 ≤ (if p = ty then C else x p) ∧ (if p = ty then C else x p) ≤ 126
      by_cases e : p = ty
      · subst e
        rw [mm_wr_s, if_pos rfl]
        exact ⟨rfl, hC32, hC⟩
      · rw [mm_wr_k e, if_neg e]
        exact hA.2.2.2.2 p (by omega)
  · obtain ⟨rfl, hJ⟩ := Eq.mp (if_pos z1) hq
    subst hJ
    exact ⟨rfl, _, rfl, wf_fr.rf, Eq.mpr (if_pos z1) ⟨rfl, hA⟩⟩
set_option maxRecDepth 100000 in
set_option maxHeartbeats 4000000 in
theorem c_clearText {S : mm_S} {I : mm_I} {w nx n ty : Nat} {hs : Nat → Nat → Int32} {x : Nat → Nat} {s : Nat → Int32} (hW : mm_wine S w) (hA : wf_at I w s nx n hs ty x) : mm_ci mX7_clearText [.ref w] S I (fun q J => q = nI ty ∧ wf_at J w s nx n hs 0 x ∧ wf_fr w I J) := by
  obtain ⟨wk, wp0, wp1, wp2, wp3, wE, wH, wO, wT⟩ := hW
  have wEk : (S.2.1 (w + 1)).1 = 2 := wE.1
  have wHk : (S.2.1 (w + 44)).1 = 3 := wH.1
  have wOk : (S.2.1 (w + 261)).1 = 5 := wO.1
  have wTk : (S.2.1 (w + 264)).1 = 6 := wT.1
  refine mm_ci.of okX7_clearText rfl (Nat.le_of_ble_eq_true rfl) (lv := [(0, .ref w)]) rfl ?_
  refine mm_aload_n dX7_clearText_0 rfl rfl ?_
  refine mm_getR dX7_clearText_1 fl_X7_26 rfl (by assumption) (by assumption) ?_
  refine mm_Vi (N := mX5_empty) (ci := 5) (as := []) dX7_clearText_4 lk_X7_133 okX5_empty (by decide) rfl (by decide) rfl (by assumption) rfl (by decide) (c_empty wO) (fun r2 J2 hq => ?_)
  obtain ⟨rfl, rfl⟩ := hq
  refine mm_iret dX7_clearText_7 rfl ?_
  refine ⟨rfl, _, rfl, hA.2.2.1, ⟨est_fr hA.1 (fun d h1 h2 => mm_wr_row (by omega)), hA.2.1.fr (fun d h1 h2 => mm_wr_row (by omega)), mm_wr_s, by omega, fun p hp => absurd hp (Nat.not_lt_zero p)⟩, fun d hd => mm_wr_row (by omega)⟩
