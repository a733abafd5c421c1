/-! THE REFERENCE: months that pass -/
theorem ws_sum_add {f g : Nat → Nat} : ∀ n, ws_sum f n + ws_sum g n = ws_sum (fun k => f k + g k) n
  | 0 => rfl
  | n + 1 => by
    have h := ws_sum_add (f := f) (g := g) n
    show ws_sum f n + f n + (ws_sum g n + g n) = ws_sum (fun k => f k + g k) n + (f n + g n)
    omega
theorem wb_it_z {r : Nat} (t : Nat) : wb_it r t 0 = 0 := wb_it_0 (by rw [Nat.zero_mul]) t
/-- the lots up to l0 alone -/
def passL (s : Nat → Int32) (t l0 : Nat) : Nat → Int32 := fun j =>
  if 9 ≤ j ∧ j < 129 ∧ 8 ≤ (j - 9) % 20 ∧ (j - 9) / 20 < l0 ∧ (j - 9) % 20 - 8 < sv s (9 + 20 * ((j - 9) / 20)) then nI (wb_it (sv s (10 + 20 * ((j - 9) / 20))) t (sv s j)) else s j
theorem passL_out {s : Nat → Int32} {t l0 j : Nat} (h : ¬ (9 ≤ j ∧ j < 129 ∧ 8 ≤ (j - 9) % 20)) : passL s t l0 j = s j := if_neg (fun q => h ⟨q.1, q.2.1, q.2.2.1⟩)
theorem passL_hi {s : Nat → Int32} {t l0 j : Nat} (h : l0 ≤ (j - 9) / 20) : passL s t l0 j = s j := if_neg (fun q => by omega)
theorem passL_0 {s : Nat → Int32} {t : Nat} : passL s t 0 = s := by
  funext j
  exact passL_hi (Nat.zero_le _)
theorem passL_lay {s : Nat → Int32} {t l n : Nat} (hl : l < 6) (h0 : s (9 + 20 * l) = nI n) (hn : n ≤ 12) : w_lay (passL s t l) l n (fun k => nI (wb_it (sv s (10 + 20 * l)) t (sv s (17 + 20 * l + k)))) = passL s t (l + 1) := by
  have hsn : sv s (9 + 20 * l) = n := sv_of h0 (by omega)
  funext j
  unfold w_lay
  by_cases e1 : j = 9 + 20 * l
  · rw [if_pos e1, passL_out (by omega), e1, h0]
  · rw [if_neg e1]
    by_cases e2 : 17 + 20 * l ≤ j ∧ j < 17 + 20 * l + n
    · rw [if_pos e2]
      have e3 : (j - 9) / 20 = l := by omega
      have e4 : (j - 9) % 20 - 8 < n := by omega
      unfold passL
      rw [if_pos ⟨by omega, by omega, by omega, by omega, by rw [e3, hsn]; exact e4⟩, e3]
      show nI (wb_it (sv s (10 + 20 * l)) t (sv s (17 + 20 * l + (j - (17 + 20 * l))))) = _
      rw [show 17 + 20 * l + (j - (17 + 20 * l)) = j by omega]
    · rw [if_neg e2]
      unfold passL
      by_cases e3 : 9 ≤ j ∧ j < 129 ∧ 8 ≤ (j - 9) % 20 ∧ (j - 9) / 20 < l ∧ (j - 9) % 20 - 8 < sv s (9 + 20 * ((j - 9) / 20))
      · rw [if_pos e3, if_pos ⟨e3.1, e3.2.1, e3.2.2.1, by omega, e3.2.2.2.2⟩]
      · rw [if_neg e3, if_neg]
        intro q
        by_cases e4 : (j - 9) / 20 = l
        · have q5 := q.2.2.2.2
          rw [e4, hsn] at q5
          omega
        · exact e3 ⟨q.1, q.2.1, q.2.2.1, by omega, q.2.2.2.2⟩
theorem passL_skip {s : Nat → Int32} {t l : Nat} (h0 : sv s (9 + 20 * l) = 0) : passL s t l = passL s t (l + 1) := by
  funext j
  unfold passL
  by_cases e3 : 9 ≤ j ∧ j < 129 ∧ 8 ≤ (j - 9) % 20 ∧ (j - 9) / 20 < l ∧ (j - 9) % 20 - 8 < sv s (9 + 20 * ((j - 9) / 20))
  · rw [if_pos e3, if_pos ⟨e3.1, e3.2.1, e3.2.2.1, by omega, e3.2.2.2.2⟩]
  · rw [if_neg e3, if_neg]
    intro q
    by_cases e4 : (j - 9) / 20 = l
    · have q5 := q.2.2.2.2
      rw [e4, h0] at q5
      omega
    · exact e3 ⟨q.1, q.2.1, q.2.2.1, by omega, q.2.2.2.2⟩
def PassOk (s : Nat → Int32) : Prop := (s 0 = nI (sv s 0) ∧ sv s 0 ≤ 6) ∧ (s 2 = nI (sv s 2) ∧ sv s 2 ≤ 1000) ∧
  ∀ l, l < 6 → s (9 + 20 * l) = nI (sv s (9 + 20 * l)) ∧ s (10 + 20 * l) = nI (sv s (10 + 20 * l)) ∧ wv_ok (sv s (9 + 20 * l)) (sv s (10 + 20 * l)) (sw s l) ∧ (∀ k, k < sv s (9 + 20 * l) → s (17 + 20 * l + k) = nI (sw s l k)) ∧ (¬ s (13 + 20 * l) = 0 → sv s (9 + 20 * l) = 0)
theorem Inv.pass {s : Nat → Int32} (h : Inv s) : PassOk s := by
  refine ⟨h.1.1, ⟨h.1.2.2.1.1, by have := h.1.2.2.1.2; omega⟩, fun l hl => ?_⟩
  have h1 := h.2.1 l hl
  refine ⟨h1.1 0 (by omega), by have := inv_f h1 1 (by omega); exact this, h1.2.1, fun k hk => inv_w h1 hk, fun q => ?_⟩
  have h5 := h1.2.2.2.2.1
  apply h5.2.1
  rcases Nat.eq_zero_or_pos (sv s (13 + 20 * l)) with e | e
  · exfalso
    apply q
    have h4 := inv_f h1 4 (by omega)
    rw [show 9 + 4 + 20 * l = 13 + 20 * l by omega, e] at h4
    exact h4
  · have := h5.1; omega
theorem sw_in {s : Nat → Int32} {l k : Nat} (hk : k < sv s (9 + 20 * l)) : sw s l k = sv s (17 + 20 * l + k) := if_pos hk
/-- the state behind k months, the month's place aside -/
theorem passW_at {s : Nat → Int32} {t j : Nat} {x : Int32} (h : ¬ (9 ≤ j ∧ j < 129 ∧ 8 ≤ (j - 9) % 20)) (h2 : j ≠ 2) : sv (upd (passW s t) 2 x) j = sv s j := by
  unfold sv upd
  rw [if_neg h2, show passW s t j = passL s t (sv s 0) j from rfl, passL_out h]
theorem passW_w {s : Nat → Int32} {t l k : Nat} {x : Int32} (h : PassOk s) (hl : l < sv s 0) (hk : k < sv s (9 + 20 * l)) : upd (passW s t) 2 x (17 + 20 * l + k) = nI (wb_it (sv s (10 + 20 * l)) t (sw s l k)) := by
  have h1 := h.1.2
  have h2 := (h.2.2 l (by omega)).2.2.1.1
  have e3 : (17 + 20 * l + k - 9) / 20 = l := by omega
  unfold upd passW
  rw [if_neg (by omega), if_pos ⟨by omega, by omega, by omega, by omega, by rw [e3]; omega⟩, e3, sw_in hk]
theorem passW_sw {s : Nat → Int32} {t l : Nat} {x : Int32} (h : PassOk s) (hl : l < sv s 0) : sw (upd (passW s t) 2 x) l = fun k => wb_it (sv s (10 + 20 * l)) t (sw s l k) := by
  have h1 := h.1.2
  have h3 := (h.2.2 l (by omega)).2.2.1
  funext k
  have e := passW_at (s := s) (t := t) (x := x) (j := 9 + 20 * l) (by omega) (by omega)
  by_cases hk : k < sv s (9 + 20 * l)
  · rw [sw_in (by rw [e]; exact hk)]
    exact sv_of (passW_w h hl hk) (by have := wb_it_le (r := sv s (10 + 20 * l)) t (sw s l k); have := h3.2.2.1 k; omega)
  · rw [show sw (upd (passW s t) 2 x) l k = 0 from if_neg (by rw [e]; exact hk), show sw s l k = 0 from if_neg hk, wb_it_z]
theorem passW_1 {s : Nat → Int32} {t : Nat} {x y : Int32} (h : PassOk s) : upd (passW (upd (passW s t) 2 x) 1) 2 y = upd (passW s (t + 1)) 2 y := by
  have h1 := h.1.2
  have e0 := passW_at (s := s) (t := t) (x := x) (j := 0) (by omega) (by omega)
  funext j
  unfold upd
  by_cases e2 : j = 2
  · rw [if_pos e2, if_pos e2]
  · rw [if_neg e2, if_neg e2]
    show passW (upd (passW s t) 2 x) 1 j = _
    by_cases e3 : 9 ≤ j ∧ j < 129 ∧ 8 ≤ (j - 9) % 20 ∧ (j - 9) / 20 < sv s 0 ∧ (j - 9) % 20 - 8 < sv s (9 + 20 * ((j - 9) / 20))
    · have el := passW_at (s := s) (t := t) (x := x) (j := 9 + 20 * ((j - 9) / 20)) (by omega) (by omega)
      have er := passW_at (s := s) (t := t) (x := x) (j := 10 + 20 * ((j - 9) / 20)) (by omega) (by omega)
      have ew := passW_w (t := t) (x := x) h e3.2.2.2.1 e3.2.2.2.2
      have ej : 17 + 20 * ((j - 9) / 20) + ((j - 9) % 20 - 8) = j := by omega
      rw [ej] at ew
      have hle := wb_it_le (r := sv s (10 + 20 * ((j - 9) / 20))) t (sw s ((j - 9) / 20) ((j - 9) % 20 - 8))
      have hb := (h.2.2 ((j - 9) / 20) (by omega)).2.2.1.2.2.1 ((j - 9) % 20 - 8)
      have ev := sv_of ew (by omega)
      unfold passW
      rw [if_pos e3, if_pos (show _ ∧ _ by rw [show sv (upd (fun j => if 9 ≤ j ∧ j < 129 ∧ 8 ≤ (j - 9) % 20 ∧ (j - 9) / 20 < sv s 0 ∧ (j - 9) % 20 - 8 < sv s (9 + 20 * ((j - 9) / 20)) then nI (wb_it (sv s (10 + 20 * ((j - 9) / 20))) t (sv s j)) else s j) 2 x) 0 = sv s 0 from e0]; exact ⟨e3.1, e3.2.1, e3.2.2.1, e3.2.2.2.1, by
        show _ < sv (upd (passW s t) 2 x) _
        rw [el]; exact e3.2.2.2.2⟩)]
      show nI (wb_it (sv (upd (passW s t) 2 x) _) 1 (sv (upd (passW s t) 2 x) j)) = _
      rw [er, ev, ← wb_it_add, sw_in e3.2.2.2.2, ej]
    · have hR : passW s (t + 1) j = s j := if_neg e3
      have hL : upd (passW s t) 2 x j = s j := by unfold upd; rw [if_neg e2]; exact if_neg e3
      rw [hR]
      show passW (upd (passW s t) 2 x) 1 j = s j
      unfold passW
      rw [if_neg]
      · exact hL
      · intro q
        apply e3
        have el := passW_at (s := s) (t := t) (x := x) (j := 9 + 20 * ((j - 9) / 20)) (by omega) (by omega)
        have q4 : (j - 9) / 20 < sv (upd (passW s t) 2 x) 0 := q.2.2.2.1
        have q5 : (j - 9) % 20 - 8 < sv (upd (passW s t) 2 x) (9 + 20 * ((j - 9) / 20)) := q.2.2.2.2
        rw [e0] at q4
        rw [el] at q5
        exact ⟨q.1, q.2.1, q.2.2.1, q4, q5⟩
theorem lostW_1 {s : Nat → Int32} {t : Nat} {x : Int32} (h : PassOk s) : lostW (upd (passW s t) 2 x) 1 + lostW s t = lostW s (t + 1) := by
  have h1 := h.1.2
  unfold lostW
  rw [passW_at (s := s) (t := t) (x := x) (j := 0) (by omega) (by omega), ws_sum_add]
  refine ws_sum_congr _ (fun l hl => ?_)
  unfold lostL
  rw [passW_sw h hl, passW_at (s := s) (t := t) (x := x) (j := 9 + 20 * l) (by omega) (by omega), passW_at (s := s) (t := t) (x := x) (j := 10 + 20 * l) (by omega) (by omega), ws_sum_add]
  refine ws_sum_congr _ (fun k hk => ?_)
  have e1 := wb_it_le (r := sv s (10 + 20 * l)) t (sw s l k)
  have e2 := wb_it_le (r := sv s (10 + 20 * l)) 1 (wb_it (sv s (10 + 20 * l)) t (sw s l k))
  rw [wb_it_add t 1]
  show wb_it (sv s (10 + 20 * l)) t (sw s l k) - wb_it (sv s (10 + 20 * l)) 1 (wb_it (sv s (10 + 20 * l)) t (sw s l k)) + (sw s l k - wb_it (sv s (10 + 20 * l)) t (sw s l k)) = sw s l k - wb_it (sv s (10 + 20 * l)) 1 (wb_it (sv s (10 + 20 * l)) t (sw s l k))
  omega
theorem PassOk.next {s : Nat → Int32} {t k : Nat} (h : PassOk s) (hk : k ≤ 1000) : PassOk (upd (passW s t) 2 (nI k)) := by
  have h1 := h.1.2
  have hat : ∀ j, ¬ (9 ≤ j ∧ j < 129 ∧ 8 ≤ (j - 9) % 20) → j ≠ 2 → upd (passW s t) 2 (nI k) j = s j := fun j q1 q2 => by
    unfold upd
    rw [if_neg q2]
    exact passL_out q1
  have e2 : sv (upd (passW s t) 2 (nI k)) 2 = k := sv_of (by unfold upd; rw [if_pos rfl]) (by omega)
  refine ⟨⟨by rw [passW_at (by omega) (by omega), hat 0 (by omega) (by omega)]; exact h.1.1, by rw [passW_at (by omega) (by omega)]; exact h.1.2⟩, ⟨by rw [e2]; unfold upd; rw [if_pos rfl], by rw [e2]; exact hk⟩, fun l hl => ?_⟩
  obtain ⟨a1, a2, a3, a4, a5⟩ := h.2.2 l hl
  rw [passW_at (j := 9 + 20 * l) (by omega) (by omega), passW_at (j := 10 + 20 * l) (by omega) (by omega), hat (9 + 20 * l) (by omega) (by omega), hat (10 + 20 * l) (by omega) (by omega), hat (13 + 20 * l) (by omega) (by omega)]
  by_cases hln : l < sv s 0
  · rw [passW_sw h hln]
    exact ⟨a1, a2, ⟨a3.1, a3.2.1, fun k => Nat.le_trans (wb_it_le _ _) (a3.2.2.1 k), fun k hk => wb_it_pos a3.2.1 _ _ (a3.2.2.2.1 k hk), fun k hk => by show wb_it _ t (sw s l k) = 0; rw [a3.2.2.2.2 k hk, wb_it_z]⟩, fun k hk => passW_w h hln hk, a5⟩
  · have hs : ∀ k, k < 12 → upd (passW s t) 2 (nI k) (17 + 20 * l + k) = s (17 + 20 * l + k) := fun k hk => by
      unfold upd
      rw [if_neg (by omega)]
      exact passL_hi (by omega)
    have hs' : ∀ q, q < 12 → upd (passW s t) 2 (nI k) (17 + 20 * l + q) = s (17 + 20 * l + q) := fun q hq => by
      unfold upd
      rw [if_neg (by omega)]
      exact passL_hi (by omega)
    have hsw : sw (upd (passW s t) 2 (nI k)) l = sw s l := by
      funext q
      unfold sw
      rw [passW_at (j := 9 + 20 * l) (by omega) (by omega)]
      by_cases e : q < sv s (9 + 20 * l)
      · rw [if_pos e, if_pos e]
        unfold sv
        rw [hs' q (by have := a3.1; omega)]
      · rw [if_neg e, if_neg e]
    rw [hsw]
    exact ⟨a1, a2, a3, fun q hq => by rw [hs' q (by have := a3.1; omega)]; exact a4 q hq, a5⟩
theorem lostL_le {s : Nat → Int32} {t l : Nat} (h : PassOk s) (hl : l < 6) : lostL s t l ≤ 27000 := by
  have a3 := (h.2.2 l hl).2.2.1
  have := ws_sum_le (w := fun k => sw s l k - wb_it (sv s (10 + 20 * l)) t (sw s l k)) (b := 2250) (sv s (9 + 20 * l)) (fun k _ => Nat.le_trans (Nat.sub_le _ _) (a3.2.2.1 k))
  have := a3.1
  unfold lostL
  omega
theorem lostW_le {s : Nat → Int32} {t : Nat} (h : PassOk s) : ∀ n, n ≤ 6 → ws_sum (lostL s t) n ≤ n * 27000 := fun n hn => ws_sum_le n (fun l hl => lostL_le h (by omega))
def r_fs (m : Nat) (I J : mm_I) : Prop := (∀ c, c ≠ m → c ≠ m + 1 → c ≠ m + 5 → J c = I c) ∧ ∀ j, j ≠ 8 → J m j = I m j

set_option maxRecDepth 100000 in
set_option maxHeartbeats 4000000 in
theorem r_passes {S : mm_S} {I : mm_I} {m : Nat} {s : Nat → Int32} (hM : mm_ref S m) (hs : I (m + 1) = s) (hok : PassOk s) : mm_ci mX8_passes [.ref m] S I (fun q J => q = nI (lostW s 1) ∧ J (m + 1) = upd (passW s 1) 2 (nI (sv s 2 + 1)) ∧ r_fs m I J) := by
  have hM0 := hM
  obtain ⟨hk, hp0, hp1, hp2, hp5, hp7, hp15, hk1, hk2, hk3, hk4, hk5, hk6⟩ := hM
  have hx : ∀ n, n < 316 → vp_in (nI n) 316 := fun n h => vp_in_nI h (by omega)
  have hN := hok.1
  refine mm_ci.of okX8_passes rfl (Nat.le_of_ble_eq_true rfl) (lv := [(0, .ref m)]) rfl ?_
  have loop : ∀ (t l : Nat) (I1 : mm_I), l + t = sv s 0 → I1 (m + 1) = passL s 1 l → r_fs m I I1 → mm_Gi mX8_passes (fun q J => q = nI (lostW s 1) ∧ J (m + 1) = upd (passW s 1) 2 (nI (sv s 2 + 1)) ∧ r_fs m I J) 4 [(2, .int (nI l)), (1, .int (nI (ws_sum (lostL s 1) l))), (0, .ref m)] [] S S I1 := by
    intro t
    induction t with
    | zero =>
      intro l I1 hl g1 g2
      have hln : l = sv s 0 := by omega
      have e0 : I1 (m + 1) 0 = nI (sv s 0) := by rw [g1, passL_out (by omega)]; exact hN.1
      have e2 : I1 (m + 1) 2 = nI (sv s 2) := by rw [g1, passL_out (by omega)]; exact hok.2.1.1
      refine mm_iload_n dX8_passes_4 rfl rfl ?_
      refine mm_aload_n dX8_passes_5 rfl rfl ?_
      refine mm_getR dX8_passes_6 fl_X8_7 rfl (by assumption) (by assumption) ?_
      refine mm_iconst 0 dX8_passes_9 rfl ?_
      refine mm_iald dX8_passes_10 (by assumption) (hx 0 (by omega)) ?_
      refine mm_tope (y := nI (sv s 0)) e0 ?_
      refine mm_icmp_ge 51 dX8_passes_11 (by decide) (fun c_11 => ?_) (fun c_11 => absurd (nI_le (by omega) (by omega)) c_11)
      refine mm_aload_n dX8_passes_51 rfl rfl ?_
      refine mm_getR dX8_passes_52 fl_X8_7 rfl (by assumption) (by assumption) ?_
      refine mm_iconst 2 dX8_passes_55 rfl ?_
      refine mm_dup2 dX8_passes_56 rfl rfl ?_
      refine mm_iald dX8_passes_57 (by assumption) (hx 2 (by omega)) ?_
      refine mm_tope (y := nI (sv s 2)) e2 ?_
      refine mm_iconst 1 dX8_passes_58 rfl ?_
      refine mm_iadd dX8_passes_59 ?_
      refine mm_tope (y := nI (sv s 2 + 1)) (nI_1 _) ?_
      refine mm_iast dX8_passes_60 (by assumption) (hx 2 (by omega)) ?_
      refine mm_iload_n dX8_passes_61 rfl rfl ?_
      refine mm_iret dX8_passes_62 rfl ?_
      exact ⟨rfl, _, rfl, by rw [hln]; rfl, by rw [mm_wr_upd, g1, hln]; rfl, fun c q1 q2 q3 => by rw [mm_wr_row q2]; exact g2.1 c q1 q2 q3, fun j hj => by rw [mm_wr_a (by omega)]; exact g2.2 j hj⟩
    | succ t ih =>
      intro l I1 hl g1 g2
      have hl6 : l < 6 := by omega
      have e0 : I1 (m + 1) 0 = nI (sv s 0) := by rw [g1, passL_out (by omega)]; exact hN.1
      obtain ⟨a1, a2, a3, a4, a5⟩ := hok.2.2 l hl6
      have e9 : I1 (m + 1) (9 + 20 * l) = nI (sv s (9 + 20 * l)) := by rw [g1, passL_out (by omega)]; exact a1
      have e10 : I1 (m + 1) (10 + 20 * l) = nI (sv s (10 + 20 * l)) := by rw [g1, passL_out (by omega)]; exact a2
      have e13 : I1 (m + 1) (13 + 20 * l) = s (13 + 20 * l) := by rw [g1, passL_out (by omega)]
      have ew : ∀ k, k < sv s (9 + 20 * l) → I1 (m + 1) (17 + 20 * l + k) = nI (sw s l k) := fun k hk => by rw [g1, passL_hi (by omega)]; exact a4 k hk
      refine mm_iload_n dX8_passes_4 rfl rfl ?_
      refine mm_aload_n dX8_passes_5 rfl rfl ?_
      refine mm_getR dX8_passes_6 fl_X8_7 rfl (by assumption) (by assumption) ?_
      refine mm_iconst 0 dX8_passes_9 rfl ?_
      refine mm_iald dX8_passes_10 (by assumption) (hx 0 (by omega)) ?_
      refine mm_tope (y := nI (sv s 0)) e0 ?_
      refine mm_icmp_ge 51 dX8_passes_11 (by decide) (fun c_11 => absurd c_11 (nI_ge (by omega) (by omega))) (fun c_11 => ?_)
      refine mm_aload_n dX8_passes_14 rfl rfl ?_
      refine mm_iload_n dX8_passes_15 rfl rfl ?_
      refine mm_Vi (N := mX8_isOpen) (ci := 8) (as := [_]) dX8_passes_16 lk_X8_85 okX8_isOpen (by decide) rfl (by decide) rfl (by assumption) rfl (by decide) (r_isOpen hM0 hl6) (fun r1 J1 hq => ?_)
      obtain ⟨rfl, hJ⟩ := hq
      subst J1
      rw [e13]
      refine mm_if_eq 45 dX8_passes_19 (by decide) (fun c_19 => ?_) (fun c_19 => ?_)
      · skip
        have n1 := if_no c_19
        have hz := a5 n1
        have hlz : lostL s 1 l = 0 := by unfold lostL; rw [hz]; rfl
        have hst : ws_sum (lostL s 1) (l + 1) = ws_sum (lostL s 1) l := by show _ + lostL s 1 l = _; omega
        have g1b : I1 (m + 1) = passL s 1 (l + 1) := by rw [g1]; exact passL_skip hz
        have g2b := g2
        refine mm_iinc 1 dX8_passes_45 rfl rfl (Nat.le_of_ble_eq_true rfl) ?_
        rw [nI_1]
        refine mm_goto 4 dX8_passes_48 (by decide) ?_
        first
          | exact mm_G.at (ih (l + 1) _ (by omega) g1b g2b) (mm_s1 rfl (mm_s1 rfl (mm_s1 rfl mm_s0)))
          | (rw [hst] at ih; exact mm_G.at (ih (l + 1) _ (by omega) g1b g2b) (mm_s1 rfl (mm_s1 rfl (mm_s1 rfl mm_s0))))
          | (have ih2 := ih (l + 1) _ (by omega) g1b g2b; rw [hst] at ih2; exact mm_G.at ih2 (mm_s1 rfl (mm_s1 rfl (mm_s1 rfl mm_s0))))
      · skip
        have y1 := if_yes c_19
        refine mm_aload_n dX8_passes_22 rfl rfl ?_
        refine mm_iload_n dX8_passes_23 rfl rfl ?_
        refine mm_Vv (N := mX8_loads) (ci := 8) (as := [_]) dX8_passes_24 lk_X8_62 okX8_loads (by decide) rfl (by decide) rfl (by assumption) rfl (by decide) (r_loads hM0 hl6 e9 a3.1 ew) (fun J1 hq => ?_)
        obtain ⟨q1, q2⟩ := hq
        refine mm_iload_n dX8_passes_27 rfl rfl ?_
        refine mm_aload_n dX8_passes_28 rfl rfl ?_
        refine mm_aload_n dX8_passes_29 rfl rfl ?_
        refine mm_iload_n dX8_passes_30 rfl rfl ?_
        refine mm_iconst 1 dX8_passes_31 rfl ?_
        refine mm_Vi (N := mX8_of) (ci := 8) (as := [_, _]) dX8_passes_32 lk_X8_36 okX8_of (by decide) rfl (by decide) rfl (by assumption) rfl (by first | decide | (simp [Value.category])) (r_of (f := 1) hM0 hl6 (by omega)) (fun r2 J2 hq => ?_)
        obtain ⟨rfl, hJ⟩ := hq
        subst J2
        rw [show 9 + 20 * l + 1 = 10 + 20 * l by omega, q2.s, e10]
        refine mm_Vi (N := mX8_month) (ci := 8) (as := [_]) dX8_passes_35 lk_X8_53 okX8_month (by decide) rfl (by decide) rfl (by assumption) rfl (by first | decide | (simp [Value.category])) (r_month hM0 q1 a3.1 a3.2.1 (fun k _ => a3.2.2.1 k) a3.2.2.2.1) (fun r3 J2 hq => ?_)
        obtain ⟨rfl, q3, q4⟩ := hq
        refine mm_iadd dX8_passes_38 ?_
        refine mm_tope (y := nI (ws_sum (lostL s 1) (l + 1))) (nI_add _ _) ?_
        refine mm_istore_n dX8_passes_39 rfl (Nat.le_of_ble_eq_true rfl) ?_
        refine mm_aload_n dX8_passes_40 rfl rfl ?_
        refine mm_iload_n dX8_passes_41 rfl rfl ?_
        refine mm_Vv (N := mX8_lays) (ci := 8) (as := [_]) dX8_passes_42 lk_X8_92 okX8_lays (by decide) rfl (by decide) rfl (by assumption) rfl (by decide) (r_lays hM0 hl6 q3.1 a3.1) (fun J3 hq => ?_)
        obtain ⟨q5, q6⟩ := hq
        have hst : ws_sum (lostL s 1) (l + 1) = ws_sum (lostL s 1) (l + 1) := rfl
        have g1b : J3 (m + 1) = passL s 1 (l + 1) := by
          rw [q5, q4.s, q2.s, g1, ← passL_lay hl6 a1 a3.1]
          funext j
          unfold w_lay
          by_cases e1 : j = 9 + 20 * l
          · rw [if_pos e1, if_pos e1]
          · rw [if_neg e1, if_neg e1]
            by_cases e2 : 17 + 20 * l ≤ j ∧ j < 17 + 20 * l + sv s (9 + 20 * l)
            · rw [if_pos e2, if_pos e2, q3.2 _ (by omega)]
              show nI (wb_step _ (sw s l (j - (17 + 20 * l)))) = nI (wb_it _ 1 (sv s (17 + 20 * l + (j - (17 + 20 * l)))))
              rw [sw_in (by omega)]
              rfl
            · rw [if_neg e2, if_neg e2]
        have g2b : r_fs m I J3 := ⟨fun c h1 h2 h3 => by rw [q6 c h2, q4.1 c h1 h3, q2.1 c h1 h3]; exact g2.1 c h1 h2 h3, fun j hj => by rw [q6 m (by omega), q4.2 j hj, q2.2 j hj]; exact g2.2 j hj⟩
        refine mm_iinc 1 dX8_passes_45 rfl rfl (Nat.le_of_ble_eq_true rfl) ?_
        rw [nI_1]
        refine mm_goto 4 dX8_passes_48 (by decide) ?_
        first
          | exact mm_G.at (ih (l + 1) _ (by omega) g1b g2b) (mm_s1 rfl (mm_s1 rfl (mm_s1 rfl mm_s0)))
          | (rw [hst] at ih; exact mm_G.at (ih (l + 1) _ (by omega) g1b g2b) (mm_s1 rfl (mm_s1 rfl (mm_s1 rfl mm_s0))))
          | (have ih2 := ih (l + 1) _ (by omega) g1b g2b; rw [hst] at ih2; exact mm_G.at ih2 (mm_s1 rfl (mm_s1 rfl (mm_s1 rfl mm_s0))))
  refine mm_iconst 0 dX8_passes_0 rfl ?_
  refine mm_istore_n dX8_passes_1 rfl (Nat.le_of_ble_eq_true rfl) ?_
  refine mm_iconst 0 dX8_passes_2 rfl ?_
  refine mm_istore_n dX8_passes_3 rfl (Nat.le_of_ble_eq_true rfl) ?_
  exact mm_G.at (loop (sv s 0) 0 I (by omega) (by rw [passL_0]; exact hs) ⟨fun _ _ _ _ => rfl, fun _ _ => rfl⟩) (mm_s1 rfl (mm_s1 rfl (mm_s1 rfl mm_s0)))
set_option maxRecDepth 100000 in
set_option maxHeartbeats 4000000 in
theorem r_pass {S : mm_S} {I : mm_I} {m n : Nat} {hs : Nat → Nat → Int32} {t : Int32} (hM : mm_ref S m) (hi : Inv (I (m + 1))) (hh : I m 4 = 0 → hist_r I m n hs) : mm_ci mX8_pass [.ref m, .int t] S I (r_Q m n hs I (sp_pass (I (m + 1)) t)) := by
  have hM0 := hM
  obtain ⟨hk, hp0, hp1, hp2, hp5, hp7, hp15, hk1, hk2, hk3, hk4, hk5, hk6⟩ := hM
  have hx : ∀ n, n < 316 → vp_in (nI n) 316 := fun n h => vp_in_nI h (by omega)
  have hpk := hi.pass
  have h2 := hi.1.2.2.1
  generalize hmo : sv (I (m + 1)) 2 = mo at h2
  refine mm_ci.of okX8_pass rfl (Nat.le_of_ble_eq_true rfl) (lv := [(0, .ref m), (1, .int t)]) rfl ?_
  refine mm_iload_n dX8_pass_0 rfl rfl ?_
  refine mm_iconst 1 dX8_pass_1 rfl ?_
  refine mm_bipush 60 dX8_pass_2 rfl ?_
  refine mm_Si (N := mX8_in) (as := [_, _, _]) dX8_pass_4 lk_X8_72 okX8_in (by decide) rfl rfl (by decide) r_in (fun r1 J1 hq => ?_)
  obtain ⟨rfl, hJ⟩ := hq
  subst J1
  refine mm_if_ne 13 dX8_pass_7 (by decide) (fun c_7 => ?_) (fun c_7 => ?_)
  · skip
    have y1 := if_yes c_7
    obtain ⟨T, hT1, hT60, rfl, hTc⟩ := int_p (n := 60) rfl (by omega) y1
    refine mm_aload_n dX8_pass_13 rfl rfl ?_
    refine mm_getR dX8_pass_14 fl_X8_7 rfl (by assumption) (by assumption) ?_
    refine mm_iconst 2 dX8_pass_17 rfl ?_
    refine mm_iald dX8_pass_18 (by assumption) (hx 2 (by omega)) ?_
    refine mm_tope (y := nI mo) h2.1 ?_
    refine mm_iload_n dX8_pass_19 rfl rfl ?_
    refine mm_iadd dX8_pass_20 ?_
    refine mm_tope (y := nI (mo + T)) (nI_add _ _) ?_
    refine mm_sipush 999 dX8_pass_21 rfl ?_
    refine mm_icmp_le 30 dX8_pass_24 (by decide) (fun c_24 => ?_) (fun c_24 => ?_)
    · skip
      have hle : ¬ 999 < mo + T := fun q => absurd c_24 (nI_ge (a := 999) q (by omega))
      refine mm_aload_n dX8_pass_30 rfl rfl ?_
      refine mm_Vv (N := mX8_changes) (ci := 8) (as := []) dX8_pass_31 lk_X8_78 okX8_changes (by decide) rfl (by decide) rfl (by assumption) rfl (by decide) (r_changes hM0 hh) (fun J1 hc => ?_)
      have hs1 := hc.s
      have hsp : sp_pass (I (m + 1)) (nI T) = (nI (lostW (I (m + 1)) T), upd (upd (passW (I (m + 1)) T) 2 (nI (mo + T))) 3 (I (m + 1) 3 + nI (lostW (I (m + 1)) T))) := by unfold sp_pass; rw [if_neg (fun q => q y1), hTc, hmo, if_neg hle]
      have p0 : J1 (m + 1) = upd (passW (I (m + 1)) 0) 2 (nI (mo + 0)) := by
        rw [hs1]
        funext j
        unfold upd
        by_cases e : j = 2
        · subst e; rw [if_pos rfl]; exact h2.1
        · rw [if_neg e]
          unfold passW
          by_cases e3 : 9 ≤ j ∧ j < 129 ∧ 8 ≤ (j - 9) % 20 ∧ (j - 9) / 20 < sv (I (m + 1)) 0 ∧ (j - 9) % 20 - 8 < sv (I (m + 1)) (9 + 20 * ((j - 9) / 20))
          · rw [if_pos e3]
            have hl6 : (j - 9) / 20 < 6 := by have := hpk.1.2; omega
            have a4 := (hpk.2.2 _ hl6).2.2.2.1 _ e3.2.2.2.2
            rw [sw_in e3.2.2.2.2, show 17 + 20 * ((j - 9) / 20) + ((j - 9) % 20 - 8) = j by omega] at a4
            exact a4
          · rw [if_neg e3]
      have l0 : lostW (I (m + 1)) 0 = 0 := by
        unfold lostW lostL
        have : ∀ n, ws_sum (fun l => ws_sum (fun k => sw (I (m + 1)) l k - wb_it (sv (I (m + 1)) (10 + 20 * l)) 0 (sw (I (m + 1)) l k)) (sv (I (m + 1)) (9 + 20 * l))) n ≤ n * 0 := fun n => ws_sum_le n (fun l _ => Nat.le_trans (ws_sum_le (b := 0) _ (fun k _ => Nat.le_of_eq (Nat.sub_self _))) (by omega))
        have := this (sv (I (m + 1)) 0)
        omega
      have loop : ∀ (u i : Nat) (I2 : mm_I), i + u = T → I2 (m + 1) = upd (passW (I (m + 1)) i) 2 (nI (mo + i)) → r_fs m J1 I2 → mm_Gi mX8_pass (r_Q m n hs I (sp_pass (I (m + 1)) (nI T))) 38 [(3, .int (nI i)), (2, .int (nI (lostW (I (m + 1)) i))), (0, .ref m), (1, .int (nI T))] [] S S I2 := by
        intro u
        induction u with
        | zero =>
          intro i I2 hiT g1 g2
          refine mm_iload_n dX8_pass_38 rfl rfl ?_
          refine mm_iload_n dX8_pass_39 rfl rfl ?_
          refine mm_icmp_ge 56 dX8_pass_40 (by decide) (fun c_40 => ?_) (fun c_40 => absurd (nI_le (by omega) (by omega)) c_40)
          refine mm_aload_n dX8_pass_56 rfl rfl ?_
          refine mm_getR dX8_pass_57 fl_X8_7 rfl (by assumption) (by assumption) ?_
          refine mm_iconst 3 dX8_pass_60 rfl ?_
          refine mm_dup2 dX8_pass_61 rfl rfl ?_
          refine mm_iald dX8_pass_62 (by assumption) (hx 3 (by omega)) ?_
          refine mm_iload_n dX8_pass_63 rfl rfl ?_
          refine mm_iadd dX8_pass_64 ?_
          refine mm_iast dX8_pass_65 (by assumption) (hx 3 (by omega)) ?_
          refine mm_iload_n dX8_pass_66 rfl rfl ?_
          refine mm_iret dX8_pass_67 rfl ?_
          have hiT : i = T := by omega
          subst hiT
          refine ⟨rfl, _, rfl, ?_⟩
          rw [hsp]
          exact ⟨rfl, by rw [mm_wr_upd, g1]; rfl, r_op.yes (nI_pos' (by have := lostW_le (t := i) hpk (sv (I (m + 1)) 0) hpk.1.2; show ws_sum _ _ < _; have := hpk.1.2; omega)) r_fr.rf hc (fun c q1 q2 q3 => by rw [mm_wr_row q2]; exact g2.1 c q1 q2 q3) (fun j hj => by rw [mm_wr_a (by omega)]; exact g2.2 j hj)⟩
        | succ u ih =>
          intro i I2 hiT g1 g2
          refine mm_iload_n dX8_pass_38 rfl rfl ?_
          refine mm_iload_n dX8_pass_39 rfl rfl ?_
          refine mm_icmp_ge 56 dX8_pass_40 (by decide) (fun c_40 => absurd c_40 (nI_ge (by omega) (by omega))) (fun c_40 => ?_)
          refine mm_iload_n dX8_pass_43 rfl rfl ?_
          refine mm_aload_n dX8_pass_44 rfl rfl ?_
          refine mm_Vi (N := mX8_passes) (ci := 8) (as := []) dX8_pass_45 lk_X8_101 okX8_passes (by decide) rfl (by decide) rfl (by assumption) rfl (by first | decide | (simp [Value.category])) (r_passes hM0 g1 (hpk.next (by omega))) (fun r2 J2 hq => ?_)
          obtain ⟨rfl, q2, q3⟩ := hq
          rw [sv_of (show upd (passW (I (m + 1)) i) 2 (nI (mo + i)) 2 = nI (mo + i) from if_pos rfl) (by omega), passW_1 hpk] at q2
          refine mm_iadd dX8_pass_48 ?_
          refine mm_tope (y := nI (lostW (I (m + 1)) (i + 1))) (by rw [nI_add, Nat.add_comm, lostW_1 hpk]) ?_
          refine mm_istore_n dX8_pass_49 rfl (Nat.le_of_ble_eq_true rfl) ?_
          refine mm_iinc 1 dX8_pass_50 rfl rfl (Nat.le_of_ble_eq_true rfl) ?_
          rw [nI_1]
          refine mm_goto 38 dX8_pass_53 (by decide) ?_
          exact mm_G.at (ih (i + 1) _ (by omega) q2 ⟨fun c h1 h2 h3 => by rw [q3.1 c h1 h2 h3]; exact g2.1 c h1 h2 h3, fun j hj => by rw [q3.2 j hj]; exact g2.2 j hj⟩) (mm_s1 rfl (mm_s1 rfl (mm_s1 rfl (mm_s1 rfl mm_s0))))
      refine mm_iconst 0 dX8_pass_34 rfl ?_
      refine mm_istore_n dX8_pass_35 rfl (Nat.le_of_ble_eq_true rfl) ?_
      refine mm_iconst 0 dX8_pass_36 rfl ?_
      refine mm_istore_n dX8_pass_37 rfl (Nat.le_of_ble_eq_true rfl) ?_
      have l1 := loop T 0 J1 (by omega) p0 ⟨fun _ _ _ _ => rfl, fun _ _ => rfl⟩
      rw [l0] at l1
      exact mm_G.at (l1) (mm_s1 rfl (mm_s1 rfl (mm_s1 rfl (mm_s1 rfl mm_s0))))
    · skip
      have hgt : 999 < mo + T := Nat.not_le.mp fun q => c_24 (nI_le (b := 999) q (by omega))
      refine mm_ldc dX8_pass_27 ct_X8_77 ?_
      refine mm_iret dX8_pass_29 rfl ?_
      exact ⟨rfl, _, rfl, r_Q_err (by unfold sp_pass; rw [if_neg (fun q => q y1), hTc, hmo, if_pos hgt]) (by decide)⟩
  · skip
    have n1 := if_no c_7
    refine mm_ldc dX8_pass_10 ct_X8_76 ?_
    refine mm_iret dX8_pass_12 rfl ?_
    exact ⟨rfl, _, rfl, r_Q_err (if_pos n1) (by decide)⟩
