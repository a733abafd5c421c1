/-! THE CLASS: History -/
theorem sw_lt {s s' : Nat → Int32} {l : Nat} (hl : l < 6) (hn : sv s (9 + 20 * l) ≤ 12) (h : ∀ j, j < 316 → s' j = s j) : sw s' l = sw s l := by
  funext k
  unfold sw
  rw [show sv s' (9 + 20 * l) = sv s (9 + 20 * l) from sv_congr (h _ (by omega))]
  by_cases hk : k < sv s (9 + 20 * l)
  · rw [if_pos hk, if_pos hk]; exact sv_congr (h _ (by omega))
  · rw [if_neg hk, if_neg hk]
theorem est_lt {I : mm_I} {e : Nat} {s s' : Nat → Int32} (hs : est_at I e s) (hi : Inv s) (h : ∀ j, j < 316 → s' j = s j) : est_at I e s' := by
  obtain ⟨⟨a4, a5, a6, a7, a8, a9, a10, a11⟩, b, c, d, f⟩ := hs
  refine ⟨⟨?_, ?_, ?_, ?_, ?_, ?_, ?_, ?_⟩, fun k hk => ?_, ?_, fun k hk => ?_, fun l hl => lot_at_congr (inv_n hi hl) (fun g hg => h _ (by omega)) (fun k hk g hg => h _ (by omega)) (f l hl)⟩
  · rw [h _ (by omega)]; exact a4
  · rw [h _ (by omega)]; exact a5
  · rw [h _ (by omega)]; exact a6
  · rw [h _ (by omega)]; exact a7
  · rw [h _ (by omega)]; exact a8
  · rw [h _ (by omega)]; exact a9
  · rw [h _ (by omega)]; exact a10
  · rw [h _ (by omega)]; exact a11
  · rw [h _ (by omega)]; exact b k hk
  · rw [h _ (by omega)]; exact c
  · rw [h _ (by omega)]; exact d k hk
theorem est_fr {I J : mm_I} {e : Nat} {s : Nat → Int32} (hs : est_at I e s) (h : ∀ c, e ≤ c → c < e + 43 → J c = I c) : est_at J e s := by
  obtain ⟨a, b, c, d, f⟩ := hs
  refine ⟨by rw [h e (by omega) (by omega)]; exact a, by rw [h (e + 2) (by omega) (by omega)]; exact b, by rw [h (e + 3) (by omega) (by omega)]; exact c, by rw [h (e + 3 + 1) (by omega) (by omega)]; exact d, fun l hl => lot_at_I (fun c h1 h2 => h c (by omega) (by omega)) (f l hl)⟩
theorem Inv.lt {s s' : Nat → Int32} (hi : Inv s) (h : ∀ j, j < 316 → s' j = s j) : Inv s' := by
  have hv : ∀ j, j < 316 → sv s' j = sv s j := fun j hj => sv_congr (h j hj)
  obtain ⟨⟨a0, a1, a2, a6, a7, a8⟩, b, c, d, f⟩ := hi
  refine ⟨⟨?_, ?_, ?_, ?_, ?_, ?_⟩, fun l hl => ?_, fun l hl h0 => ?_, fun k hk h0 => ?_, ?_⟩
  · rw [h 0 (by omega), hv 0 (by omega)]; exact a0
  · rw [h 1 (by omega), hv 1 (by omega)]; exact a1
  · rw [h 2 (by omega), hv 2 (by omega)]; exact a2
  · rw [h 6 (by omega), hv 6 (by omega)]; exact a6
  · rw [h 7 (by omega), hv 7 (by omega)]; exact a7
  · rw [h 8 (by omega), hv 8 (by omega)]; exact a8
  · obtain ⟨q1, q2, q3, q4, q5, q6, q7, q8⟩ := b l hl
    have hw := sw_lt hl q2.1 h
    have v9 := hv (9 + 20 * l) (by omega)
    have hg : gsum s' l = gsum s l := ws_sum_congr _ (fun k hk => hv _ (by omega))
    have hh : hsum s' l = hsum s l := ws_sum_congr _ (fun k hk => hv _ (by omega))
    refine ⟨fun g hg => by rw [h _ (by omega), hv _ (by omega)]; exact q1 g hg, ?_, fun k hk => ?_, ?_, ?_, ?_, ?_, fun k hk => ⟨fun g hg => by rw [h _ (by omega), hv _ (by omega)]; exact (q8 k hk).1 g hg, ?_⟩⟩
    · rw [hw, v9, hv _ (by omega)]; exact q2
    · rw [v9] at hk
      have := q2.1
      rw [h _ (by omega), hv _ (by omega)]; exact q3 k hk
    · rw [hw, v9, hv (11 + 20 * l) (by omega), hv (12 + 20 * l) (by omega)]; exact q4
    · rw [v9, hv (13 + 20 * l) (by omega), hv (15 + 20 * l) (by omega)]; exact q5
    · rw [hg, hv (14 + 20 * l) (by omega), hv (15 + 20 * l) (by omega), hv (16 + 20 * l) (by omega)]; exact q6
    · rw [hh, hv (13 + 20 * l) (by omega), hv (14 + 20 * l) (by omega)]; exact q7
    · rw [hv (136 + 18 * k + 3 * l) (by omega), hv (137 + 18 * k + 3 * l) (by omega)]; exact (q8 k hk).2
  · rw [hv 0 (by omega)] at h0
    obtain ⟨q1, q2⟩ := c l hl h0
    exact ⟨fun g hg => by rw [hv _ (by omega)]; exact q1 g hg, fun k hk g hg => by rw [hv _ (by omega)]; exact q2 k hk g hg⟩
  · rw [hv 1 (by omega)] at h0
    obtain ⟨q1, q2⟩ := d k hk h0
    exact ⟨by rw [h _ (by omega)]; exact q1, fun l hl g hg => by rw [hv _ (by omega)]; exact q2 l hl g hg⟩
  · rw [h 4 (by omega), f]
    exact congrArg nI (ws_sum_congr 6 (fun l hl => (hv _ (by omega)).symm))
def mm_hist (S : mm_S) (y : Nat) : Prop := (S.2.1 y).1 = 3 ∧ S.2.2 y 0 = some (y + 1) ∧ S.2.1 (y + 1) = (11, 5) ∧ ∀ i, i < 5 → S.2.2 (y + 1) i = some (y + 2 + 43 * i) ∧ mm_est S (y + 2 + 43 * i)
def his_at (I : mm_I) (y nx n : Nat) (hs : Nat → Nat → Int32) : Prop := nx < 5 ∧ n ≤ 4 ∧ I y 1 = nI nx ∧ I y 2 = nI n ∧ ∀ i, i < n → est_at I (y + 2 + 43 * ((nx + 5 - n + i) % 5)) (hs i)
def nxUp (nx : Nat) : Nat := if nx = 4 then 0 else nx + 1
def nxDn (nx : Nat) : Nat := if nx = 0 then 4 else nx - 1
/-- the draft lies in its row -/
theorem his_draft {I J : mm_I} {y nx n : Nat} {hs : Nat → Nat → Int32} (h : his_at I y nx n hs) (hJ : ∀ c, c < y + 2 + 43 * nx ∨ y + 2 + 43 * nx + 43 ≤ c → J c = I c) : his_at J y nx n hs := by
  obtain ⟨h1, h2, h3, h4, h5⟩ := h
  refine ⟨h1, h2, by rw [hJ y (by omega)]; exact h3, by rw [hJ y (by omega)]; exact h4, fun i hi => est_fr (h5 i hi) (fun c c1 c2 => hJ c ?_)⟩
  have hne : (nx + 5 - n + i) % 5 ≠ nx := by omega
  omega
theorem his_keep {I J : mm_I} {y nx n : Nat} {hs : Nat → Nat → Int32} {s : Nat → Int32} (h : his_at I y nx n hs) (hd : est_at I (y + 2 + 43 * nx) s) (hJ : ∀ c, c ≠ y → J c = I c) (j1 : J y 1 = nI (nxUp nx)) (j2 : J y 2 = nI (pushN n)) : his_at J y (nxUp nx) (pushN n) (pushH n hs s) := by
  obtain ⟨h1, h2, h3, h4, h5⟩ := h
  have hup : nxUp nx = (nx + 1) % 5 := by unfold nxUp; split <;> omega
  have hpn : pushN n = if n = 4 then 4 else n + 1 := rfl
  have mv : ∀ r u, est_at I (y + 2 + 43 * r) u → est_at J (y + 2 + 43 * r) u := fun r u q => est_fr q (fun c c1 c2 => hJ c (by omega))
  by_cases e : n = 4
  · rw [if_pos e] at hpn
    refine ⟨by omega, by omega, j1, j2, fun i hi => ?_⟩
    rw [hpn] at hi ⊢
    unfold pushH
    rw [if_pos e]
    show est_at J _ (if i = 3 then s else hs (i + 1))
    by_cases e3 : i = 3
    · rw [if_pos e3, show (nxUp nx + 5 - 4 + i) % 5 = nx by omega]
      exact mv nx s hd
    · rw [if_neg e3, show (nxUp nx + 5 - 4 + i) % 5 = (nx + 5 - n + (i + 1)) % 5 by omega]
      exact mv _ _ (h5 (i + 1) (by omega))
  · rw [if_neg e] at hpn
    refine ⟨by omega, by omega, j1, j2, fun i hi => ?_⟩
    rw [hpn] at hi ⊢
    unfold pushH
    rw [if_neg e]
    show est_at J _ (if i = n then s else hs i)
    by_cases e3 : i = n
    · rw [if_pos e3, show (nxUp nx + 5 - (n + 1) + i) % 5 = nx by omega]
      exact mv nx s hd
    · rw [if_neg e3, show (nxUp nx + 5 - (n + 1) + i) % 5 = (nx + 5 - n + i) % 5 by omega]
      exact mv _ _ (h5 i (by omega))
theorem his_back {I J : mm_I} {y nx n : Nat} {hs : Nat → Nat → Int32} (h : his_at I y nx n hs) (hn : 0 < n) (hJ : ∀ c, y < c → c < y + 217 → J c = I c) (j1 : J y 1 = nI (nxDn nx)) (j2 : J y 2 = nI (n - 1)) : his_at J y (nxDn nx) (n - 1) hs := by
  obtain ⟨h1, h2, h3, h4, h5⟩ := h
  have hdn : nxDn nx = (nx + 4) % 5 := by unfold nxDn; split <;> omega
  refine ⟨by omega, by omega, j1, j2, fun i hi => ?_⟩
  rw [show (nxDn nx + 5 - (n - 1) + i) % 5 = (nx + 5 - n + i) % 5 by omega]
  exact est_fr (h5 i (by omega)) (fun c c1 c2 => hJ c (by omega) (by omega))

theorem min_up {n : Nat} (hn : n ≤ 4) : (if (4 : Int32) < nI (n + 1) then 4 else nI (n + 1)) = nI (pushN n) := by
  rcases (show n = 0 ∨ n = 1 ∨ n = 2 ∨ n = 3 ∨ n = 4 by omega) with rfl | rfl | rfl | rfl | rfl <;> decide

set_option maxRecDepth 100000 in
set_option maxHeartbeats 4000000 in
theorem c_nextRow {S : mm_S} {I : mm_I} {y nx : Nat} (hY : mm_hist S y) (h1 : I y 1 = nI nx) (hx : nx < 5) : mm_cr mX3_nextRow [.ref y] S I (fun r J => r = some (y + 2 + 43 * nx) ∧ J = I) := by
  obtain ⟨yk, yp0, yk1, yrows⟩ := hY
  have yr := (yrows nx hx).1
  refine mm_cr.of okX3_nextRow rfl (Nat.le_of_ble_eq_true rfl) (lv := [(0, .ref y)]) rfl ?_
  refine mm_aload_n dX3_nextRow_0 rfl rfl ?_
  refine mm_getI dX3_nextRow_1 fl_X3_26 rfl (by assumption) ?_
  refine mm_tope (y := nI nx) h1 ?_
  refine mm_if_lt 31 dX3_nextRow_4 (by decide) (fun c_4 => absurd c_4 (nI_pos (by omega))) (fun c_4 => ?_)
  refine mm_aload_n dX3_nextRow_7 rfl rfl ?_
  refine mm_getI dX3_nextRow_8 fl_X3_26 rfl (by assumption) ?_
  refine mm_tope (y := nI nx) h1 ?_
  refine mm_aload_n dX3_nextRow_11 rfl rfl ?_
  refine mm_getR dX3_nextRow_12 fl_X3_11 rfl (by assumption) (by assumption) ?_
  refine mm_alen (t := 2) dX3_nextRow_15 (by assumption) (by decide) 5 rfl ?_
  refine mm_icmp_ge 31 dX3_nextRow_16 (by decide) (fun c_16 => absurd c_16 (nI_ge (b := 5) (by omega) (by omega))) (fun c_16 => ?_)
  refine mm_aload_n dX3_nextRow_19 rfl rfl ?_
  refine mm_getR dX3_nextRow_20 fl_X3_11 rfl (by assumption) (by assumption) ?_
  refine mm_aload_n dX3_nextRow_23 rfl rfl ?_
  refine mm_getI dX3_nextRow_24 fl_X3_26 rfl (by assumption) ?_
  refine mm_tope (y := nI nx) h1 ?_
  refine mm_aald (t := 1) (y + 2 + 43 * nx) dX3_nextRow_27 (by assumption) (by decide) (vp_in_nI (n := nx) (by omega) (by omega)) (by rw [nI_clamp (by omega)]; exact yr) ?_
  refine mm_goto 32 dX3_nextRow_28 (by decide) ?_
  refine mm_aret (r := some _) dX3_nextRow_32 rfl rfl ?_
  exact ⟨rfl, _, rfl, rfl, rfl⟩
set_option maxRecDepth 100000 in
set_option maxHeartbeats 4000000 in
theorem c_draft {S : mm_S} {I : mm_I} {y nx n e : Nat} {hs : Nat → Nat → Int32} {s : Nat → Int32} (hY : mm_hist S y) (hE : mm_est S e) (hye : e + 43 ≤ y) (hh : his_at I y nx n hs) (hs0 : est_at I e s) (hi : Inv s) : mm_cv mX3_draft [.ref y, .ref e] S I (fun J => est_at J (y + 2 + 43 * nx) s ∧ ∀ c, c < y + 2 + 43 * nx ∨ y + 2 + 43 * nx + 43 ≤ c → J c = I c) := by
  have hY0 := hY
  obtain ⟨yk, yp0, yk1, yrows⟩ := hY
  have yr := (yrows nx hh.1).2
  have yrk : (S.2.1 (y + 2 + 43 * nx)).1 = 2 := yr.1
  refine mm_cv.of okX3_draft rfl (Nat.le_of_ble_eq_true rfl) (lv := [(0, .ref y), (1, .ref e)]) rfl ?_
  refine mm_aload_n dX3_draft_0 rfl rfl ?_
  refine mm_Vr (N := mX3_nextRow) (ci := 3) (as := []) dX3_draft_1 lk_X3_18 okX3_nextRow (by decide) rfl (by decide) rfl (by assumption) rfl (by decide) (c_nextRow hY0 hh.2.2.1 hh.1) (fun r1 J1 hq => ?_)
  obtain ⟨rfl, hJ⟩ := hq
  subst J1
  refine mm_astore_n dX3_draft_4 rfl (Nat.le_of_ble_eq_true rfl) ?_
  refine mm_aload_n dX3_draft_5 rfl rfl ?_
  refine mm_ifnull dX3_draft_6 ?_
  refine mm_aload_n dX3_draft_9 rfl rfl ?_
  refine mm_aload_n dX3_draft_10 rfl rfl ?_
  refine mm_Vv (N := mX2_copyEstate) (ci := 2) (as := [_]) dX3_draft_11 lk_X3_22 okX2_copyEstate (by decide) rfl (by decide) rfl (by assumption) rfl (by decide) (c_copyEstate yr hE (by omega) hs0 hi) (fun J1 hq => ?_)
  obtain ⟨q1, q2⟩ := hq
  refine mm_vret dX3_draft_14 rfl ?_
  exact ⟨rfl, rfl, q1, fun c hc => q2 c (by omega)⟩
set_option maxRecDepth 100000 in
set_option maxHeartbeats 4000000 in
theorem c_keepDraft {S : mm_S} {I : mm_I} {y nx n : Nat} (hY : mm_hist S y) (h1 : I y 1 = nI nx) (h2 : I y 2 = nI n) (hx : nx < 5) (hn : n ≤ 4) : mm_cv mX3_keepDraft [.ref y] S I (fun J => J = mm_wr (mm_wr I y 1 (nI (nxUp nx))) y 2 (nI (pushN n))) := by
  obtain ⟨yk, yp0, yk1, yrows⟩ := hY
  refine mm_cv.of okX3_keepDraft rfl (Nat.le_of_ble_eq_true rfl) (lv := [(0, .ref y)]) rfl ?_
  refine mm_aload_n dX3_keepDraft_0 rfl rfl ?_
  refine mm_aload_n dX3_keepDraft_1 rfl rfl ?_
  refine mm_getI dX3_keepDraft_2 fl_X3_26 rfl (by assumption) ?_
  refine mm_tope (y := nI nx) h1 ?_
  refine mm_iconst 4 dX3_keepDraft_5 rfl ?_
  refine mm_icmp_lt 13 dX3_keepDraft_6 (by decide) (fun c_6 => ?_) (fun c_6 => ?_)
  · skip
    have hlt : nx < 4 := (nI_ltI (b := 4) (by omega) (by omega)).mp c_6
    have hup : nI (nx + 1) = nI (nxUp nx) := by unfold nxUp; rw [if_neg (by omega)]
    refine mm_aload_n dX3_keepDraft_13 rfl rfl ?_
    refine mm_getI dX3_keepDraft_14 fl_X3_26 rfl (by assumption) ?_
    refine mm_tope (y := nI nx) h1 ?_
    refine mm_iconst 1 dX3_keepDraft_17 rfl ?_
    refine mm_iadd dX3_keepDraft_18 ?_
    refine mm_tope (y := nI (nxUp nx)) ((nI_1 _).trans hup) ?_
    refine mm_putI dX3_keepDraft_19 fl_X3_26 rfl rfl (by assumption) ?_
    refine mm_aload_n dX3_keepDraft_22 rfl rfl ?_
    refine mm_aload_n dX3_keepDraft_23 rfl rfl ?_
    refine mm_getI dX3_keepDraft_24 fl_X3_30 rfl (by assumption) ?_
    refine mm_tope (y := nI n) ((mm_wr_k (by omega)).trans h2) ?_
    refine mm_iconst 1 dX3_keepDraft_27 rfl ?_
    refine mm_iadd dX3_keepDraft_28 ?_
    refine mm_tope (y := nI (n + 1)) (nI_1 _) ?_
    refine mm_iconst 4 dX3_keepDraft_29 rfl ?_
    refine mm_min dX3_keepDraft_30 lk_X3_33 min_st ini_Math min_code (by decide) (by first | decide | (simp [Value.category])) (Nat.zero_le _) (Nat.zero_le _) ?_
    refine mm_tope (y := nI (pushN n)) (min_up hn) ?_
    refine mm_putI dX3_keepDraft_33 fl_X3_30 rfl rfl (by assumption) ?_
    refine mm_vret dX3_keepDraft_36 rfl ?_
    exact ⟨rfl, rfl, rfl⟩
  · skip
    have hge : nx = 4 := by have := Nat.not_lt.mp fun q => c_6 (nI_lt (b := 4) q (by omega)); omega
    have hup : (0 : Int32) = nI (nxUp nx) := by unfold nxUp; rw [if_pos hge]; rfl
    refine mm_iconst 0 dX3_keepDraft_9 rfl ?_
    refine mm_goto 19 dX3_keepDraft_10 (by decide) ?_
    refine mm_tope (y := nI (nxUp nx)) hup ?_
    refine mm_putI dX3_keepDraft_19 fl_X3_26 rfl rfl (by assumption) ?_
    refine mm_aload_n dX3_keepDraft_22 rfl rfl ?_
    refine mm_aload_n dX3_keepDraft_23 rfl rfl ?_
    refine mm_getI dX3_keepDraft_24 fl_X3_30 rfl (by assumption) ?_
    refine mm_tope (y := nI n) ((mm_wr_k (by omega)).trans h2) ?_
    refine mm_iconst 1 dX3_keepDraft_27 rfl ?_
    refine mm_iadd dX3_keepDraft_28 ?_
    refine mm_tope (y := nI (n + 1)) (nI_1 _) ?_
    refine mm_iconst 4 dX3_keepDraft_29 rfl ?_
    refine mm_min dX3_keepDraft_30 lk_X3_33 min_st ini_Math min_code (by decide) (by first | decide | (simp [Value.category])) (Nat.zero_le _) (Nat.zero_le _) ?_
    refine mm_tope (y := nI (pushN n)) (min_up hn) ?_
    refine mm_putI dX3_keepDraft_33 fl_X3_30 rfl rfl (by assumption) ?_
    refine mm_vret dX3_keepDraft_36 rfl ?_
    exact ⟨rfl, rfl, rfl⟩
set_option maxRecDepth 100000 in
set_option maxHeartbeats 4000000 in
theorem c_restore {S : mm_S} {I : mm_I} {y nx n e : Nat} {hs : Nat → Nat → Int32} (hY : mm_hist S y) (hE : mm_est S e) (hye : e + 43 ≤ y) (hh : his_at I y nx n hs) (hi : ∀ i, i < n → Inv (hs i)) : mm_ci mX3_restore [.ref y, .ref e] S I (fun q J => if n = 0 then q = -2000000002 ∧ J = I else q = nI (n - 1) ∧ est_at J e (hs (n - 1)) ∧ his_at J y (nxDn nx) (n - 1) hs ∧ ∀ c, c ≠ y → (c < e ∨ e + 43 ≤ c) → J c = I c) := by
  have hY0 := hY
  have hh0 := hh
  obtain ⟨yk, yp0, yk1, yrows⟩ := hY
  obtain ⟨h1, h2, h3, h4, h5⟩ := hh
  have hdn : nxDn nx = (nx + 4) % 5 := by unfold nxDn; split <;> omega
  have yr := (yrows (nxDn nx) (by omega)).2
  have hEk : (S.2.1 e).1 = 2 := hE.1
  refine mm_ci.of okX3_restore rfl (Nat.le_of_ble_eq_true rfl) (lv := [(0, .ref y), (1, .ref e)]) rfl ?_
  refine mm_aload_n dX3_restore_0 rfl rfl ?_
  refine mm_getI dX3_restore_1 fl_X3_30 rfl (by assumption) ?_
  refine mm_tope (y := nI n) h4 ?_
  refine mm_if_gt 10 dX3_restore_4 (by decide) (fun c_4 => ?_) (fun c_4 => ?_)
  · skip
    have hn : 0 < n := (nI_ltI (a := 0) (by omega) (by omega)).mp c_4
    refine mm_aload_n dX3_restore_10 rfl rfl ?_
    refine mm_aload_n dX3_restore_11 rfl rfl ?_
    refine mm_getI dX3_restore_12 fl_X3_26 rfl (by assumption) ?_
    refine mm_tope (y := nI nx) h3 ?_
    refine mm_if_gt 22 dX3_restore_15 (by decide) (fun c_15 => ?_) (fun c_15 => ?_)
    · skip
      have hx : 0 < nx := (nI_ltI (a := 0) (by omega) (by omega)).mp c_15
      have hup : nI (nx - 1) = nI (nxDn nx) := by unfold nxDn; rw [if_neg (by omega)]
      refine mm_aload_n dX3_restore_22 rfl rfl ?_
      refine mm_getI dX3_restore_23 fl_X3_26 rfl (by assumption) ?_
      refine mm_tope (y := nI nx) h3 ?_
      refine mm_iconst 1 dX3_restore_26 rfl ?_
      refine mm_isub dX3_restore_27 ?_
      refine mm_tope (y := nI (nxDn nx)) ((pk_sub (b := 1) (by omega)).trans hup) ?_
      refine mm_putI dX3_restore_28 fl_X3_26 rfl rfl (by assumption) ?_
      refine mm_aload_n dX3_restore_31 rfl rfl ?_
      refine mm_dup dX3_restore_32 rfl ?_
      refine mm_getI dX3_restore_33 fl_X3_30 rfl (by assumption) ?_
      refine mm_tope (y := nI n) ((mm_wr_k (by omega)).trans h4) ?_
      refine mm_iconst 1 dX3_restore_36 rfl ?_
      refine mm_isub dX3_restore_37 ?_
      refine mm_tope (y := nI (n - 1)) (pk_sub (b := 1) (by omega)) ?_
      refine mm_putI dX3_restore_38 fl_X3_30 rfl rfl (by assumption) ?_
      refine mm_aload_n dX3_restore_41 rfl rfl ?_
      refine mm_Vr (N := mX3_nextRow) (ci := 3) (as := []) dX3_restore_42 lk_X3_18 okX3_nextRow (by decide) rfl (by decide) rfl (by assumption) rfl (by decide) (c_nextRow hY0 ((mm_wr_k (by omega)).trans mm_wr_s) (by omega)) (fun r1 J1 hq => ?_)
      obtain ⟨rfl, hJ⟩ := hq
      subst J1
      refine mm_astore_n dX3_restore_45 rfl (Nat.le_of_ble_eq_true rfl) ?_
      refine mm_aload_n dX3_restore_46 rfl rfl ?_
      refine mm_ifnull dX3_restore_47 ?_
      refine mm_aload_n dX3_restore_50 rfl rfl ?_
      refine mm_aload_n dX3_restore_51 rfl rfl ?_
      refine mm_Vv (N := mX2_copyEstate) (ci := 2) (as := [_]) dX3_restore_52 lk_X3_22 okX2_copyEstate (by decide) rfl (by decide) rfl (by assumption) rfl (by decide) (c_copyEstate (s := hs (n - 1)) hE yr (by omega) (est_fr (I := I) (by have q := h5 (n - 1) (by omega); rw [show (nx + 5 - n + (n - 1)) % 5 = nxDn nx by omega] at q; exact q) (fun c c1 c2 => by rw [mm_wr_row (by omega), mm_wr_row (by omega)])) (hi (n - 1) (by omega))) (fun J2 hq => ?_)
      obtain ⟨q1, q2⟩ := hq
      have y1 : J2 y 1 = nI (nxDn nx) := by rw [q2 y (by omega), mm_wr_k (by omega), mm_wr_s]
      have y2 : J2 y 2 = nI (n - 1) := by rw [q2 y (by omega), mm_wr_s]
      have yf : ∀ c, c ≠ y → (c < e ∨ e + 43 ≤ c) → J2 c = I c := fun c c1 c2 => by rw [q2 c c2, mm_wr_row c1, mm_wr_row c1]
      refine mm_aload_n dX3_restore_55 rfl rfl ?_
      refine mm_getI dX3_restore_56 fl_X3_30 rfl (by assumption) ?_
      refine mm_tope (y := nI (n - 1)) y2 ?_
      refine mm_iret dX3_restore_59 rfl ?_
      exact ⟨rfl, _, rfl, Eq.mpr (if_neg (Nat.ne_of_gt hn)) ⟨rfl, q1, his_back hh0 hn (fun c c1 c2 => yf c (by omega) (by omega)) y1 y2, yf⟩⟩
    · skip
      have hx : nx = 0 := Nat.eq_zero_of_not_pos fun q => c_15 (nI_lt (a := 0) q (by omega))
      have hup : (4 : Int32) = nI (nxDn nx) := by unfold nxDn; rw [if_pos hx]; rfl
      refine mm_iconst 4 dX3_restore_18 rfl ?_
      refine mm_goto 28 dX3_restore_19 (by decide) ?_
      refine mm_tope (y := nI (nxDn nx)) hup ?_
      refine mm_putI dX3_restore_28 fl_X3_26 rfl rfl (by assumption) ?_
      refine mm_aload_n dX3_restore_31 rfl rfl ?_
      refine mm_dup dX3_restore_32 rfl ?_
      refine mm_getI dX3_restore_33 fl_X3_30 rfl (by assumption) ?_
      refine mm_tope (y := nI n) ((mm_wr_k (by omega)).trans h4) ?_
      refine mm_iconst 1 dX3_restore_36 rfl ?_
      refine mm_isub dX3_restore_37 ?_
      refine mm_tope (y := nI (n - 1)) (pk_sub (b := 1) (by omega)) ?_
      refine mm_putI dX3_restore_38 fl_X3_30 rfl rfl (by assumption) ?_
      refine mm_aload_n dX3_restore_41 rfl rfl ?_
      refine mm_Vr (N := mX3_nextRow) (ci := 3) (as := []) dX3_restore_42 lk_X3_18 okX3_nextRow (by decide) rfl (by decide) rfl (by assumption) rfl (by decide) (c_nextRow hY0 ((mm_wr_k (by omega)).trans mm_wr_s) (by omega)) (fun r1 J1 hq => ?_)
      obtain ⟨rfl, hJ⟩ := hq
      subst J1
      refine mm_astore_n dX3_restore_45 rfl (Nat.le_of_ble_eq_true rfl) ?_
      refine mm_aload_n dX3_restore_46 rfl rfl ?_
      refine mm_ifnull dX3_restore_47 ?_
      refine mm_aload_n dX3_restore_50 rfl rfl ?_
      refine mm_aload_n dX3_restore_51 rfl rfl ?_
      refine mm_Vv (N := mX2_copyEstate) (ci := 2) (as := [_]) dX3_restore_52 lk_X3_22 okX2_copyEstate (by decide) rfl (by decide) rfl (by assumption) rfl (by decide) (c_copyEstate (s := hs (n - 1)) hE yr (by omega) (est_fr (I := I) (by have q := h5 (n - 1) (by omega); rw [show (nx + 5 - n + (n - 1)) % 5 = nxDn nx by omega] at q; exact q) (fun c c1 c2 => by rw [mm_wr_row (by omega), mm_wr_row (by omega)])) (hi (n - 1) (by omega))) (fun J2 hq => ?_)
      obtain ⟨q1, q2⟩ := hq
      have y1 : J2 y 1 = nI (nxDn nx) := by rw [q2 y (by omega), mm_wr_k (by omega), mm_wr_s]
      have y2 : J2 y 2 = nI (n - 1) := by rw [q2 y (by omega), mm_wr_s]
      have yf : ∀ c, c ≠ y → (c < e ∨ e + 43 ≤ c) → J2 c = I c := fun c c1 c2 => by rw [q2 c c2, mm_wr_row c1, mm_wr_row c1]
      refine mm_aload_n dX3_restore_55 rfl rfl ?_
      refine mm_getI dX3_restore_56 fl_X3_30 rfl (by assumption) ?_
      refine mm_tope (y := nI (n - 1)) y2 ?_
      refine mm_iret dX3_restore_59 rfl ?_
      exact ⟨rfl, _, rfl, Eq.mpr (if_neg (Nat.ne_of_gt hn)) ⟨rfl, q1, his_back hh0 hn (fun c c1 c2 => yf c (by omega) (by omega)) y1 y2, yf⟩⟩
  · skip
    have hn : n = 0 := Nat.eq_zero_of_not_pos fun q => c_4 (nI_lt (a := 0) q (by omega))
    refine mm_ldc dX3_restore_7 ct_X3_39 ?_
    refine mm_iret dX3_restore_9 rfl ?_
    exact ⟨rfl, _, rfl, Eq.mpr (if_pos hn) ⟨rfl, rfl⟩⟩
