/-! THE SPEC'S OPERATIONS: (answer, the state then) -/
abbrev sp_T : Type := Int32 × (Nat → Int32)
def okL (s : Nat → Int32) (l : Int32) : Prop := 0 ≤ l ∧ l < s 0
def okB (s : Nat → Int32) (b : Int32) : Prop := 0 ≤ b ∧ b < s 1
def okC (c p : Int32) : Prop := (1 ≤ c ∧ c ≤ 999) ∧ (0 ≤ p ∧ p ≤ 999)
def sp_lot (s : Nat → Int32) (b r : Int32) : sp_T :=
  if ¬ ((1 ≤ b ∧ b ≤ 12) ∧ (0 ≤ r ∧ r ≤ 50)) then (-2000000001, s)
  else if s 0 = 6 then (-2000000003, s)
  else (s 0, upd (fun j => if 17 + 20 * sv s 0 ≤ j ∧ j < 17 + 20 * sv s 0 + b.toNatClampNeg then 2250 else upd (upd s (9 + 20 * sv s 0) b) (10 + 20 * sv s 0) r j) 0 (nI (sv s 0 + 1)))
def sp_buyer (s : Nat → Int32) : sp_T := if s 1 = 6 then (-2000000003, s) else (s 1, upd s 1 (nI (sv s 1 + 1)))
def sp_set (s : Nat → Int32) (w v : Int32) : sp_T :=
  if ¬ ((0 ≤ w ∧ w ≤ 1) ∧ (0 ≤ v ∧ v ≤ (if w = 0 then 100 else 36))) then (-2000000001, s)
  else (s (7 + w.toNatClampNeg), upd s (7 + w.toNatClampNeg) v)
def sp_taste (s : Nat → Int32) (l c : Int32) : sp_T :=
  if ¬ ((0 ≤ l ∧ l < s 0) ∧ (0 ≤ c ∧ c ≤ 100)) then (-2000000001, s)
  else match w_find (fun k => decide (10 ≤ sw s l.toNatClampNeg k)) 0 (sv s (9 + 20 * l.toNatClampNeg)) with
    | none => (-2000000002, s)
    | some b => (nI (w_quote (sv s (11 + 20 * l.toNatClampNeg) + c.toNatClampNeg) (sv s (12 + 20 * l.toNatClampNeg) + 1)),
        upd (upd (w_lay s l.toNatClampNeg (w_sipN (sv s (9 + 20 * l.toNatClampNeg)) (sw s l.toNatClampNeg) b) (fun k => nI (w_sip (sw s l.toNatClampNeg) b k))) (11 + 20 * l.toNatClampNeg) (nI (sv s (11 + 20 * l.toNatClampNeg) + c.toNatClampNeg))) (12 + 20 * l.toNatClampNeg) (nI (sv s (12 + 20 * l.toNatClampNeg) + 1)))
def sp_top (s : Nat → Int32) (l : Int32) : sp_T :=
  if ¬ (0 ≤ l ∧ l < s 0) then (-2000000001, s)
  else match w_find (fun k => decide (sw s l.toNatClampNeg k < 2250)) 0 (sv s (9 + 20 * l.toNatClampNeg) - 1) with
    | none => (-2000000002, s)
    | some _ => (nI (w_top 24 0 (sv s (9 + 20 * l.toNatClampNeg)) (sw s l.toNatClampNeg)).1, w_lay s l.toNatClampNeg (w_top 24 0 (sv s (9 + 20 * l.toNatClampNeg)) (sw s l.toNatClampNeg)).1 (fun k => nI ((w_top 24 0 (sv s (9 + 20 * l.toNatClampNeg)) (sw s l.toNatClampNeg)).2 k)))
/-- months pass: the wine then -/
def passW (s : Nat → Int32) (t : Nat) : Nat → Int32 := fun j =>
  if 9 ≤ j ∧ j < 129 ∧ 8 ≤ (j - 9) % 20 ∧ (j - 9) / 20 < sv s 0 ∧ (j - 9) % 20 - 8 < sv s (9 + 20 * ((j - 9) / 20)) then nI (wb_it (sv s (10 + 20 * ((j - 9) / 20))) t (sv s j)) else s j
def lostL (s : Nat → Int32) (t l : Nat) : Nat := ws_sum (fun k => sw s l k - wb_it (sv s (10 + 20 * l)) t (sw s l k)) (sv s (9 + 20 * l))
def lostW (s : Nat → Int32) (t : Nat) : Nat := ws_sum (lostL s t) (sv s 0)
def sp_pass (s : Nat → Int32) (t : Int32) : sp_T :=
  if ¬ (1 ≤ t ∧ t ≤ 60) then (-2000000001, s)
  else if 999 < sv s 2 + t.toNatClampNeg then (-2000000003, s)
  else (nI (lostW s t.toNatClampNeg), upd (upd (passW s t.toNatClampNeg) 2 (nI (sv s 2 + t.toNatClampNeg))) 3 (s 3 + nI (lostW s t.toNatClampNeg)))
def sp_exp (s : Nat → Int32) (l : Nat) : Nat := ws_sum (fun k => wb_it (sv s (10 + 20 * l)) (sv s 8) (sw s l k)) (sv s (9 + 20 * l)) / 90 * (100 - sv s 7) / 100
def sp_goes (s : Nat → Int32) (b l k : Nat) : Nat → Int32 := upd (upd s (137 + 18 * b + 3 * l) (nI (sv s (137 + 18 * b + 3 * l) - sv s (137 + 18 * b + 3 * l) * k / sv s (136 + 18 * b + 3 * l)))) (136 + 18 * b + 3 * l) (nI (sv s (136 + 18 * b + 3 * l) - k))
def sp_cut1 (s : Nat → Int32) (l b c al : Nat) : Nat → Int32 :=
  if w_cut (sv s (136 + 18 * b + 3 * l)) c al = 0 then s
  else sp_enter (upd (upd (sp_goes s b l (w_cut (sv s (136 + 18 * b + 3 * l)) c al)) (129 + b) (s (129 + b) + nI (sv s (137 + 18 * b + 3 * l) * w_cut (sv s (136 + 18 * b + 3 * l)) c al / sv s (136 + 18 * b + 3 * l)))) 135 (s 135 - nI (sv s (137 + 18 * b + 3 * l) * w_cut (sv s (136 + 18 * b + 3 * l)) c al / sv s (136 + 18 * b + 3 * l))))
    2 (nI l) (nI b) (nI (w_cut (sv s (136 + 18 * b + 3 * l)) c al)) (nI (sv s (137 + 18 * b + 3 * l) * w_cut (sv s (136 + 18 * b + 3 * l)) c al / sv s (136 + 18 * b + 3 * l))) (-2000000004)
def sp_cuts (s : Nat → Int32) (l c al : Nat) : Nat → Nat → Int32
  | 0 => s
  | b + 1 => sp_cut1 (sp_cuts s l c al b) l b c al
def cutK (s : Nat → Int32) (l c al n : Nat) : Nat := ws_sum (fun b => w_cut (sv s (136 + 18 * b + 3 * l)) c al) n
def sp_bottle (s : Nat → Int32) (l : Int32) : sp_T :=
  if ¬ (0 ≤ l ∧ l < s 0) then (-2000000001, s)
  else if ¬ sv s (13 + 20 * l.toNatClampNeg) = 0 then (-2000000002, s)
  else (nI (cutK s l.toNatClampNeg (ws_sum (sw s l.toNatClampNeg) (sv s (9 + 20 * l.toNatClampNeg)) / 90) (hsum s l.toNatClampNeg) (sv s 1)),
    upd (upd (upd (upd (upd (sp_cuts s l.toNatClampNeg (ws_sum (sw s l.toNatClampNeg) (sv s (9 + 20 * l.toNatClampNeg)) / 90) (hsum s l.toNatClampNeg) (sv s 1)) (9 + 20 * l.toNatClampNeg) 0) (13 + 20 * l.toNatClampNeg) 1) (14 + 20 * l.toNatClampNeg) (nI (ws_sum (sw s l.toNatClampNeg) (sv s (9 + 20 * l.toNatClampNeg)) / 90))) (15 + 20 * l.toNatClampNeg) (nI (ws_sum (sw s l.toNatClampNeg) (sv s (9 + 20 * l.toNatClampNeg)) / 90))) 5
      (s 5 + nI (cutK s l.toNatClampNeg (ws_sum (sw s l.toNatClampNeg) (sv s (9 + 20 * l.toNatClampNeg)) / 90) (hsum s l.toNatClampNeg) (sv s 1))))
def sp_sell (s : Nat → Int32) (l b c p : Int32) : sp_T :=
  if ¬ ((0 ≤ l ∧ l < s 0) ∧ (0 ≤ b ∧ b < s 1) ∧ (1 ≤ c ∧ c ≤ 999) ∧ (0 ≤ p ∧ p ≤ 999)) then (-2000000001, s)
  else if ¬ (sv s (13 + 20 * l.toNatClampNeg) = 0 ∧ hsum s l.toNatClampNeg + c.toNatClampNeg ≤ sp_exp s l.toNatClampNeg) then (-2000000002, s)
  else (s (136 + 18 * b.toNatClampNeg + 3 * l.toNatClampNeg) + c, sp_enter (sp_comes s b.toNatClampNeg l.toNatClampNeg c p 6) 0 l b c p (-2000000004))
def sp_trade (s : Nat → Int32) (l f t c p : Int32) : sp_T :=
  if ¬ ((0 ≤ l ∧ l < s 0) ∧ (0 ≤ f ∧ f < s 1) ∧ (0 ≤ t ∧ t < s 1) ∧ ¬ f = t ∧ (1 ≤ c ∧ c ≤ 999) ∧ (0 ≤ p ∧ p ≤ 999)) then (-2000000001, s)
  else if sv s (136 + 18 * f.toNatClampNeg + 3 * l.toNatClampNeg) < c.toNatClampNeg then (-2000000002, s)
  else (s (136 + 18 * t.toNatClampNeg + 3 * l.toNatClampNeg) + c, sp_enter (sp_comes (sp_goes s f.toNatClampNeg l.toNatClampNeg c.toNatClampNeg) t.toNatClampNeg l.toNatClampNeg c p f.toNatClampNeg) 1 l t c p f)
def sp_redeem (s : Nat → Int32) (l b c : Int32) : sp_T :=
  if ¬ ((0 ≤ l ∧ l < s 0) ∧ (0 ≤ b ∧ b < s 1) ∧ (1 ≤ c ∧ c ≤ 999)) then (-2000000001, s)
  else if ¬ (¬ sv s (13 + 20 * l.toNatClampNeg) = 0 ∧ c.toNatClampNeg ≤ sv s (136 + 18 * b.toNatClampNeg + 3 * l.toNatClampNeg)) then (-2000000002, s)
  else (s (14 + 20 * l.toNatClampNeg) - c,
    sp_enter (upd (upd (upd (upd (sp_goes s b.toNatClampNeg l.toNatClampNeg c.toNatClampNeg) (138 + 18 * b.toNatClampNeg + 3 * l.toNatClampNeg) (s (138 + 18 * b.toNatClampNeg + 3 * l.toNatClampNeg) + c)) (14 + 20 * l.toNatClampNeg) (s (14 + 20 * l.toNatClampNeg) - c)) (16 + 20 * l.toNatClampNeg) (s (16 + 20 * l.toNatClampNeg) + c)) 4 (s 4 + c)) 3 l b c (-2000000004) (-2000000004))
/-! what an operation of the reference leaves alone, and what it keeps of the past -/
def r_chg (m n : Nat) (hs : Nat → Nat → Int32) (I J : mm_I) : Prop := (∀ c, c ≠ m → c ≠ m + 2 → J c = I c) ∧ (∀ j, j ≠ 3 → J m j = I m j) ∧ (¬ I m 4 = 0 → J = I) ∧ (I m 4 = 0 → hist_r J m (pushN n) (pushH n hs (I (m + 1))))
def r_op (m n : Nat) (hs : Nat → Nat → Int32) (ch : Prop) (I J : mm_I) : Prop := (∀ c, c ≠ m → c ≠ m + 1 → c ≠ m + 2 → c ≠ m + 5 → J c = I c) ∧ (∀ j, j ≠ 3 → j ≠ 8 → J m j = I m j) ∧ ((ch → ¬ I m 4 = 0) → J (m + 2) = I (m + 2) ∧ J m 3 = I m 3) ∧ (ch → I m 4 = 0 → hist_r J m (pushN n) (pushH n hs (I (m + 1))))
theorem r_op.no {m n : Nat} {hs : Nat → Nat → Int32} {ch : Prop} {I : mm_I} (h : ¬ ch) : r_op m n hs ch I I := ⟨fun _ _ _ _ _ => rfl, fun _ _ _ => rfl, fun _ => ⟨rfl, rfl⟩, fun q => absurd q h⟩
theorem r_op.fr {m n : Nat} {hs : Nat → Nat → Int32} {ch : Prop} {I J : mm_I} (h : ¬ ch) (g : r_fr I J m) : r_op m n hs ch I J := ⟨fun c h1 _ _ h4 => g.1 c h1 h4, fun j _ h2 => g.2 j h2, fun _ => ⟨g.1 (m + 2) (by omega) (by omega), g.2 3 (by decide)⟩, fun q => absurd q h⟩
theorem hist_r.of {m n : Nat} {hs : Nat → Nat → Int32} {I J : mm_I} (h : hist_r I m n hs) (h3 : J m 3 = I m 3) (h2 : J (m + 2) = I (m + 2)) : hist_r J m n hs := ⟨by rw [h3]; exact h.1, h.2.1, fun i hi k hk => by rw [h2]; exact h.2.2 i hi k hk⟩
/-- a change: what came before changes() (the wine at hand), changes(), what came after (s, the wine at hand) -/
theorem r_op.yes {m n : Nat} {hs : Nat → Nat → Int32} {ch : Prop} {I I1 J1 J : mm_I} (hc : ch) (g : r_fr I I1 m) (h : r_chg m n hs I1 J1) (f : ∀ c, c ≠ m → c ≠ m + 1 → c ≠ m + 5 → J c = J1 c) (f8 : ∀ j, j ≠ 8 → J m j = J1 m j) : r_op m n hs ch I J := by
  obtain ⟨h1, h2, h3, h4⟩ := h
  have e4 : I1 m 4 = I m 4 := g.2 4 (by decide)
  have es : I1 (m + 1) = I (m + 1) := g.s
  refine ⟨fun c q1 q2 q3 q4 => ?_, fun j q1 q2 => ?_, fun q => ?_, fun _ q => ?_⟩
  · rw [f c q1 q2 q4, h1 c q1 q3, g.1 c q1 q4]
  · rw [f8 j q2, h2 j q1, g.2 j q2]
  · have e := h3 (by rw [e4]; exact q hc)
    rw [f (m + 2) (by omega) (by omega) (by omega), f8 3 (by decide), e]
    exact ⟨g.1 (m + 2) (by omega) (by omega), g.2 3 (by decide)⟩
  · have e := h4 (by rw [e4]; exact q)
    rw [es] at e
    exact e.of (f8 3 (by decide)) (f (m + 2) (by omega) (by omega) (by omega))
theorem r_changes {S : mm_S} {I : mm_I} {m n : Nat} {hs : Nat → Nat → Int32} (hM : mm_ref S m) (hh : I m 4 = 0 → hist_r I m n hs) : mm_cv mX8_changes [.ref m] S I (r_chg m n hs I) := by
  by_cases h : I m 4 = 0
  · exact (r_changes0 hM h (hh h)).to (fun J hJ => ⟨hJ.2.1, hJ.2.2, fun q => absurd h q, fun _ => hJ.1⟩)
  · exact (r_changes1 hM h).to (fun J hJ => by subst hJ; exact ⟨fun _ _ _ => rfl, fun _ _ => rfl, fun _ => rfl, fun q => absurd q h⟩)
theorem r_chg.s {m n : Nat} {hs : Nat → Nat → Int32} {I J : mm_I} (h : r_chg m n hs I J) : J (m + 1) = I (m + 1) := h.1 (m + 1) (by omega) (by omega)
theorem r_chg.w {m n : Nat} {hs : Nat → Nat → Int32} {I J : mm_I} (h : r_chg m n hs I J) {b : Nat} {w : Nat → Nat} (hw : rw_at I m b w) : rw_at J m b w := ⟨by rw [h.2.1 8 (by decide)]; exact hw.1, fun k hk => by rw [h.1 (m + 5) (by omega) (by omega)]; exact hw.2 k hk⟩
/-! reading the invariant -/
theorem inv_l {s : Nat → Int32} {l : Int32} (h : Inv s) (hl : 0 ≤ l ∧ l < s 0) : ∃ k, k < sv s 0 ∧ k < 6 ∧ l = nI k ∧ l.toNatClampNeg = k := by
  obtain ⟨k, h1, rfl⟩ := nI_of (Int32.not_lt.mpr hl.1)
  have h2 := h.1.1
  rw [h2.1] at hl
  have h3 := (nI_ltI h1 (by omega)).mp hl.2
  exact ⟨k, h3, by omega, rfl, nI_clamp h1⟩
theorem inv_b {s : Nat → Int32} {b : Int32} (h : Inv s) (hb : 0 ≤ b ∧ b < s 1) : ∃ k, k < sv s 1 ∧ k < 6 ∧ b = nI k ∧ b.toNatClampNeg = k := by
  obtain ⟨k, h1, rfl⟩ := nI_of (Int32.not_lt.mpr hb.1)
  have h2 := h.1.2.1
  rw [h2.1] at hb
  have h3 := (nI_ltI h1 (by omega)).mp hb.2
  exact ⟨k, h3, by omega, rfl, nI_clamp h1⟩
theorem int_n {x M : Int32} {n : Nat} (hM : M.toInt = n) (hn : n < 2 ^ 31) (h : 0 ≤ x ∧ x ≤ M) : ∃ k, k ≤ n ∧ x = nI k ∧ x.toNatClampNeg = k := by
  obtain ⟨k, h1, rfl⟩ := nI_of2 hM (Int32.not_lt.mpr h.1) h.2
  exact ⟨k, h1, rfl, nI_clamp (by omega)⟩
theorem int_p {x M : Int32} {n : Nat} (hM : M.toInt = n) (hn : n < 2 ^ 31) (h : 1 ≤ x ∧ x ≤ M) : ∃ k, 1 ≤ k ∧ k ≤ n ∧ x = nI k ∧ x.toNatClampNeg = k := by
  have h0 : (0 : Int32) ≤ x := Int32.le_trans (by decide) h.1
  obtain ⟨k, h1, rfl, h2⟩ := int_n hM hn ⟨h0, h.2⟩
  exact ⟨k, (nI_leI (a := 1) (by decide) (by omega)).mp h.1, h1, rfl, h2⟩
theorem inv_w {s : Nat → Int32} {l k : Nat} (h : lot_inv s l) (hk : k < sv s (9 + 20 * l)) : s (17 + 20 * l + k) = nI (sw s l k) := by
  rw [h.2.2.1 k hk]
  unfold sw
  rw [if_pos hk]
theorem inv_f {s : Nat → Int32} {l : Nat} (h : lot_inv s l) (f : Nat) (hf : f < 8) : s (9 + f + 20 * l) = nI (sv s (9 + f + 20 * l)) := by
  have := h.1 f hf
  rw [show 9 + 20 * l + f = 9 + f + 20 * l by omega] at this
  exact this
theorem inv_t {s : Nat → Int32} {l : Nat} (h : lot_inv s l) : sv s (12 + 20 * l) ≤ 2700 := by have := h.2.2.2.1.2; omega
