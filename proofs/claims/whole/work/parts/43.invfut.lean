/-! THE INVARIANT IS KEPT: months, futures, bottling -/
theorem share_keep {p k h : Nat} (hp : p ≤ 999 * h) (hk : k ≤ h) (hh : 0 < h) : p - p * k / h ≤ 999 * (h - k) := by
  rcases Nat.lt_or_ge (999 * (h - k)) p with hlt | hge
  · obtain ⟨d, rfl⟩ : ∃ d, h = k + d := ⟨h - k, by omega⟩
    rw [show k + d - k = d by omega] at *
    have h1 : (p - 999 * d) * (k + d) ≤ p * k := by
      have e1 : (p - 999 * d) * (k + d) + 999 * d * (k + d) = p * (k + d) := by
        rw [← Nat.add_mul, Nat.sub_add_cancel (Nat.le_of_lt hlt)]
      have e2 : p * (k + d) = p * k + p * d := Nat.mul_add _ _ _
      have e3 : p * d ≤ 999 * (k + d) * d := Nat.mul_le_mul_right d hp
      have e4 : 999 * (k + d) * d = 999 * d * (k + d) := by rw [Nat.mul_assoc, Nat.mul_assoc, Nat.mul_comm (k + d) d]
      omega
    have h2 : p - 999 * d ≤ p * k / (k + d) := (Nat.le_div_iff_mul_le hh).mpr h1
    omega
  · exact Nat.le_trans (Nat.sub_le _ _) hge
theorem sum_div {H : Nat → Nat} {c a : Nat} : ∀ n, ws_sum (fun b => H b * c / a) n * a ≤ ws_sum H n * c
  | 0 => by show 0 * a ≤ 0 * c; omega
  | n + 1 => by
    show (ws_sum (fun b => H b * c / a) n + H n * c / a) * a ≤ (ws_sum H n + H n) * c
    rw [Nat.add_mul, Nat.add_mul]
    exact Nat.add_le_add (sum_div n) (Nat.div_mul_le_self _ _)
theorem enter_6 {s : Nat → Int32} {k l b c p f : Int32} (h : s 6 = nI (sv s 6) ∧ sv s 6 ≤ 12) : sp_enter s k l b c p f 6 = nI (sv (sp_enter s k l b c p f) 6) ∧ sv (sp_enter s k l b c p f) 6 ≤ 12 := by
  have e := sp_enter_6 (s := s) (k := k) (l := l) (b := b) (c := c) (p := p) (f := f)
  by_cases e3 : sv s 6 < 12
  · rw [if_pos e3] at e
    have v := sv_of e (by omega)
    exact ⟨by rw [v]; exact e, by omega⟩
  · rw [if_neg e3] at e
    have v := sv_of e (by omega)
    exact ⟨by rw [v]; exact e, by omega⟩
/-- what one buyer holds of one lot has changed -/
theorem Inv.hold {s s' : Nat → Int32} {L B h' p' g' sh' dl' : Nat} (hi : Inv s) (hL : L < sv s 0) (hB : B < sv s 1) (hat : ∀ j, j < 244 → j ≠ 6 → j ≠ 4 → ¬ (129 ≤ j ∧ j ≤ 135) → j ≠ 136 + 18 * B + 3 * L → j ≠ 137 + 18 * B + 3 * L → j ≠ 138 + 18 * B + 3 * L → j ≠ 14 + 20 * L → j ≠ 16 + 20 * L → s' j = s j) (hacc : ∀ b, b < 6 → sv s 1 ≤ b → s' (129 + b) = s (129 + b)) (g6 : s' 6 = nI (sv s' 6) ∧ sv s' 6 ≤ 12) (eh : s' (136 + 18 * B + 3 * L) = nI h') (ep : s' (137 + 18 * B + 3 * L) = nI p') (eg : s' (138 + 18 * B + 3 * L) = nI g') (e14 : s' (14 + 20 * L) = nI sh') (e16 : s' (16 + 20 * L) = nI dl') (g4 : s' 4 = s 4 + nI (dl' - sv s (16 + 20 * L))) (hdl : sv s (16 + 20 * L) ≤ dl') (hdg : dl' + sv s (138 + 18 * B + 3 * L) = sv s (16 + 20 * L) + g') (hsd : sh' + dl' = sv s (15 + 20 * L)) (hs1 : hsum s L + h' ≤ 300 + sv s (136 + 18 * B + 3 * L)) (hs2 : sv s (13 + 20 * L) = 1 → hsum s L + h' ≤ sh' + sv s (136 + 18 * B + 3 * L)) (hp : p' ≤ 999 * h') : Inv s' := by
  have hL6 : L < 6 := by have := hi.1.1.2; omega
  have hB6 : B < 6 := by have := hi.1.2.1.2; omega
  have hd2 := hi.2.2.2.2
  obtain ⟨n, r, sc, t, cl, sh, bt, dl, w, H, P, G, ⟨i0, i1, i2, i3, i4, i5, i6, i7⟩, _, iB, iH, hI, hF⟩ := lot_get (hi.2.1 L hL6)
  obtain ⟨⟨q0, q1, q2, q3, q4, q5, q6, q7⟩, qw, qb⟩ := hI
  obtain ⟨f0, f1, f2, f3, f4, f5⟩ := hF
  have hn := f0.1
  rw [i7] at hdl hdg g4
  rw [i6] at hsd
  rw [i4] at hs2
  rw [(iB B).1] at hs1 hs2
  rw [iH] at hs1 hs2
  rw [(iB B).2.2] at hdg
  have sH := ws_one (v := fun b => if b = B then h' else H b) (w := H) 6 hB6 (fun k _ hne => if_neg hne)
  have sG := ws_one (v := fun b => if b = B then g' else G b) (w := G) 6 hB6 (fun k _ hne => if_neg hne)
  have tH : (if B = B then h' else H B) = h' := if_pos rfl
  have tG : (if B = B then g' else G B) = g' := if_pos rfl
  rw [tH] at sH
  rw [tG] at sG
  have hat2 : ∀ f, f < 20 → f ≠ 5 → f ≠ 7 → s' (9 + f + 20 * L) = s (9 + f + 20 * L) := fun f h1 h2 h3 => hat _ (by omega) (by omega) (by omega) (by omega) (by omega) (by omega) (by omega) (by omega) (by omega)
  have hat3 : ∀ b, b < 6 → b ≠ B → ∀ f, f < 3 → s' (136 + 18 * b + 3 * L + f) = s (136 + 18 * b + 3 * L + f) := fun b h1 h2 f h3 => hat _ (by omega) (by omega) (by omega) (by omega) (by omega) (by omega) (by omega) (by omega) (by omega)
  refine hi.one (L := L) (d := dl' - dl) hL (hat 0 (by omega) (by omega) (by omega) (by omega) (by omega) (by omega) (by omega) (by omega) (by omega)) (hat 1 (by omega) (by omega) (by omega) (by omega) (by omega) (by omega) (by omega) (by omega) (by omega)) (hat 2 (by omega) (by omega) (by omega) (by omega) (by omega) (by omega) (by omega) (by omega) (by omega)) g6 (hat 7 (by omega) (by omega) (by omega) (by omega) (by omega) (by omega) (by omega) (by omega) (by omega)) (hat 8 (by omega) (by omega) (by omega) (by omega) (by omega) (by omega) (by omega) (by omega) (by omega)) (fun l hl hne f hf => hat _ (by omega) (by omega) (by omega) (by omega) (by omega) (by omega) (by omega) (by omega) (by omega)) (fun l hl hne b hb f hf => hat _ (by omega) (by omega) (by omega) (by omega) (by omega) (by omega) (by omega) (by omega) (by omega)) ?_ (fun b hb hge => ⟨hacc b hb hge, hat3 b hb (by omega)⟩) (by rw [sv_of e16 (by omega), i7]; omega) g4
  refine lot_mk (n := n) (r := r) (sc := sc) (t := t) (cl := cl) (sh := sh') (bt := bt) (dl := dl') (w := w) (H := fun b => if b = B then h' else H b) (P := fun b => if b = B then p' else P b) (G := fun b => if b = B then g' else G b) ⟨⟨?_, ?_, ?_, ?_, ?_, e14, ?_, e16⟩, fun k hk => ?_, fun b hb => ?_⟩ ⟨f0, f1, f2, ⟨hsd, f3.2.1, by omega⟩, ⟨by omega, fun q => ?_⟩, fun b hb => ?_⟩
  · exact (hat2 0 (by omega) (by omega) (by omega)).trans q0
  · exact (hat2 1 (by omega) (by omega) (by omega)).trans q1
  · exact (hat2 2 (by omega) (by omega) (by omega)).trans q2
  · exact (hat2 3 (by omega) (by omega) (by omega)).trans q3
  · exact (hat2 4 (by omega) (by omega) (by omega)).trans q4
  · exact (hat2 6 (by omega) (by omega) (by omega)).trans q6
  · have := hat2 (8 + k) (by omega) (by omega) (by omega)
    rw [show 9 + (8 + k) + 20 * L = 17 + 20 * L + k by omega] at this
    exact this.trans (qw k hk)
  · show s' _ = nI (if b = B then h' else H b) ∧ s' _ = nI (if b = B then p' else P b) ∧ s' _ = nI (if b = B then g' else G b)
    by_cases e : b = B
    · subst e
      rw [if_pos rfl, if_pos rfl, if_pos rfl]
      exact ⟨eh, ep, eg⟩
    · rw [if_neg e, if_neg e, if_neg e]
      refine ⟨(hat3 b hb e 0 (by omega)).trans (qb b hb).1, ?_, ?_⟩
      · have := hat3 b hb e 1 (by omega)
        rw [show 136 + 18 * b + 3 * L + 1 = 137 + 18 * b + 3 * L by omega] at this
        exact this.trans (qb b hb).2.1
      · have := hat3 b hb e 2 (by omega)
        rw [show 136 + 18 * b + 3 * L + 2 = 138 + 18 * b + 3 * L by omega] at this
        exact this.trans (qb b hb).2.2
  · have := hs2 q
    omega
  · show (if b = B then p' else P b) ≤ 999 * (if b = B then h' else H b)
    by_cases e : b = B
    · rw [if_pos e, if_pos e]; exact hp
    · rw [if_neg e, if_neg e]; exact f5 b hb
theorem inv_g {s : Nat → Int32} {L B : Nat} (hi : Inv s) (hL6 : L < 6) (hB6 : B < 6) : s (138 + 18 * B + 3 * L) = nI (sv s (138 + 18 * B + 3 * L)) ∧ s (14 + 20 * L) = nI (sv s (14 + 20 * L)) ∧ s (16 + 20 * L) = nI (sv s (16 + 20 * L)) ∧ sv s (14 + 20 * L) + sv s (16 + 20 * L) = sv s (15 + 20 * L) ∧ sv s (15 + 20 * L) ≤ 300 ∧ sv s (137 + 18 * B + 3 * L) ≤ 999 * sv s (136 + 18 * B + 3 * L) ∧ hsum s L ≤ 300 ∧ (sv s (13 + 20 * L) = 1 → hsum s L ≤ sv s (14 + 20 * L)) ∧ sv s (136 + 18 * B + 3 * L) ≤ hsum s L := by
  have hl := hi.2.1 L hL6
  have hb := hl.2.2.2.2.2.2.2 B hB6
  have h2 := hb.1 2 (by omega)
  rw [show 136 + 18 * B + 3 * L + 2 = 138 + 18 * B + 3 * L by omega] at h2
  exact ⟨h2, inv_f hl 5 (by omega), inv_f hl 7 (by omega), hl.2.2.2.2.2.1.1, hl.2.2.2.2.2.1.2.1, hb.2, hl.2.2.2.2.2.2.1.1, hl.2.2.2.2.2.2.1.2, ws_sum_ge (w := fun b => sv s (136 + 18 * b + 3 * L)) 6 B hB6⟩
/-- cases go: the rest of the state but the accounts, the book's count as before -/
theorem Inv.less {s s' : Nat → Int32} {L B k : Nat} (hi : Inv s) (hL : L < sv s 0) (hB : B < sv s 1) (hk0 : 0 < k) (hk : k ≤ sv s (136 + 18 * B + 3 * L)) (hat : ∀ j, j < 244 → j ≠ 6 → ¬ (129 ≤ j ∧ j ≤ 135) → s' j = sp_goes s B L k j) (hacc : ∀ b, b < 6 → sv s 1 ≤ b → s' (129 + b) = s (129 + b)) (g6 : s' 6 = nI (sv s' 6) ∧ sv s' 6 ≤ 12) : Inv s' := by
  have hL6 : L < 6 := by have := hi.1.1.2; omega
  have hB6 : B < 6 := by have := hi.1.2.1.2; omega
  obtain ⟨x1, x2, x3, x4, x5, x6, x7, x8, x9⟩ := inv_g hi hL6 hB6
  refine hi.hold (L := L) (B := B) (h' := sv s (136 + 18 * B + 3 * L) - k) (p' := sv s (137 + 18 * B + 3 * L) - sv s (137 + 18 * B + 3 * L) * k / sv s (136 + 18 * B + 3 * L)) (g' := sv s (138 + 18 * B + 3 * L)) (sh' := sv s (14 + 20 * L)) (dl' := sv s (16 + 20 * L)) hL hB (fun j h1 h2 h3 h4 h5 h6 h7 h8 h9 => by rw [hat j h1 h2 h4, sp_goes_at h5 h6]) hacc g6 ?_ ?_ ?_ ?_ ?_ ?_ (Nat.le_refl _) (by omega) x4 (by omega) (fun q => by have := x8 q; omega) (share_keep x6 hk (by omega))
  · rw [hat _ (by omega) (by omega) (by omega)]
    exact if_pos rfl
  · rw [hat _ (by omega) (by omega) (by omega)]
    unfold sp_goes upd
    rw [if_neg (by omega), if_pos rfl]
  · rw [hat _ (by omega) (by omega) (by omega), sp_goes_at (by omega) (by omega)]; exact x1
  · rw [hat _ (by omega) (by omega) (by omega), sp_goes_at (by omega) (by omega)]; exact x2
  · rw [hat _ (by omega) (by omega) (by omega), sp_goes_at (by omega) (by omega)]; exact x3
  · rw [hat 4 (by omega) (by omega) (by omega), sp_goes_at (by omega) (by omega), Nat.sub_self, nI_0]
    exact (Int32.add_zero _).symm
theorem Inv.goes {s : Nat → Int32} {L B k : Nat} (hi : Inv s) (hL : L < sv s 0) (hB : B < sv s 1) (hk0 : 0 < k) (hk : k ≤ sv s (136 + 18 * B + 3 * L)) : Inv (sp_goes s B L k) := by
  have e6 : sp_goes s B L k 6 = s 6 := sp_goes_at (by omega) (by omega)
  exact hi.less hL hB hk0 hk (fun _ _ _ _ => rfl) (fun b _ _ => sp_goes_at (by omega) (by omega)) (by rw [sv_congr e6, e6]; exact hi.1.2.2.2.1)
/-- cases come, and are entered -/
theorem Inv.more {s : Nat → Int32} {L B F C Q : Nat} {k l b f : Int32} (hi : Inv s) (hL : L < sv s 0) (hB : B < sv s 1) (hF : F < sv s 1 ∨ F = 6) (hQ : Q ≤ 999) (hC : hsum s L + C ≤ 300) (hs : sv s (13 + 20 * L) = 1 → hsum s L + C ≤ sv s (14 + 20 * L)) : Inv (sp_enter (sp_comes s B L (nI C) (nI Q) F) k l b (nI C) (nI Q) f) := by
  have hL6 : L < 6 := by have := hi.1.1.2; omega
  have hB6 : B < 6 := by have := hi.1.2.1.2; omega
  have hn6 := hi.1.2.1.2
  obtain ⟨x1, x2, x3, x4, x5, x6, x7, x8, x9⟩ := inv_g hi hL6 hB6
  obtain ⟨y1, y2, y3, y4⟩ := inv_h hi hL6 hB6
  have hat : ∀ j, j < 244 → j ≠ 6 → j ≠ 136 + 18 * B + 3 * L → j ≠ 137 + 18 * B + 3 * L → j ≠ 129 + B → j ≠ 129 + F → sp_enter (sp_comes s B L (nI C) (nI Q) F) k l b (nI C) (nI Q) f j = s j := fun j h1 h2 h3 h4 h5 h6 => by rw [sp_enter_at h1 h2, sp_comes_at h3 h4 h5 h6]
  refine hi.hold (L := L) (B := B) (h' := sv s (136 + 18 * B + 3 * L) + C) (p' := sv s (137 + 18 * B + 3 * L) + C * Q) (g' := sv s (138 + 18 * B + 3 * L)) (sh' := sv s (14 + 20 * L)) (dl' := sv s (16 + 20 * L)) hL hB (fun j h1 h2 h3 h4 h5 h6 h7 h8 h9 => hat j h1 h2 h5 h6 (by omega) (by omega)) (fun b hb hge => hat _ (by omega) (by omega) (by omega) (by omega) (by omega) (by omega)) ?_ ?_ ?_ ?_ ?_ ?_ ?_ (Nat.le_refl _) (by omega) x4 (by omega) (fun q => by have := hs q; omega) ?_
  · exact enter_6 (by
      have e6 : sp_comes s B L (nI C) (nI Q) F 6 = s 6 := sp_comes_at (by omega) (by omega) (by omega) (by omega)
      rw [sv_congr e6, e6]; exact hi.1.2.2.2.1)
  · rw [sp_enter_at (by omega) (by omega), sp_comes_h hB6 (by omega), y1, nI_add]
  · rw [sp_enter_at (by omega) (by omega)]
    unfold sp_comes upd
    rw [if_neg (by omega), if_neg (by omega), if_pos rfl, y3, pk_mul, nI_add]
  · rw [hat _ (by omega) (by omega) (by omega) (by omega) (by omega) (by omega)]; exact x1
  · rw [hat _ (by omega) (by omega) (by omega) (by omega) (by omega) (by omega)]; exact x2
  · rw [hat _ (by omega) (by omega) (by omega) (by omega) (by omega) (by omega)]; exact x3
  · rw [hat 4 (by omega) (by omega) (by omega) (by omega) (by omega) (by omega), Nat.sub_self, nI_0]
    exact (Int32.add_zero _).symm
  · have h1 := Nat.mul_le_mul_left C hQ
    omega
theorem Inv.sell {s : Nat → Int32} {l b c p : Int32} (hi : Inv s) : Inv (sp_sell s l b c p).2 := by
  unfold sp_sell
  split
  · exact hi
  · rename_i hne
    have hne := Classical.not_not.mp hne
    obtain ⟨L, hLn, hL6, rfl, hLc⟩ := inv_l hi hne.1
    obtain ⟨B, hBn, hB6, rfl, hBc⟩ := inv_b hi hne.2.1
    obtain ⟨C, hC1, hC9, rfl, hCc⟩ := int_p (n := 999) rfl (by omega) hne.2.2.1
    obtain ⟨Q, hQ9, rfl, hQc⟩ := int_n (n := 999) rfl (by omega) hne.2.2.2
    rw [hLc, hBc, hCc]
    split
    · exact hi
    · rename_i h2
      have h2 := Classical.not_not.mp h2
      have := sp_exp_le hi hL6
      exact hi.more hLn hBn (Or.inr rfl) hQ9 (by omega) (fun q => by omega)
theorem Inv.trade {s : Nat → Int32} {l f t c p : Int32} (hi : Inv s) : Inv (sp_trade s l f t c p).2 := by
  unfold sp_trade
  split
  · exact hi
  · rename_i hne
    have hne := Classical.not_not.mp hne
    obtain ⟨L, hLn, hL6, rfl, hLc⟩ := inv_l hi hne.1
    obtain ⟨B, hBn, hB6, rfl, hBc⟩ := inv_b hi hne.2.1
    obtain ⟨T, hTn, hT6, rfl, hTc⟩ := inv_b hi hne.2.2.1
    have hBT : B ≠ T := fun q => hne.2.2.2.1 (by rw [q])
    obtain ⟨C, hC1, hC9, rfl, hCc⟩ := int_p (n := 999) rfl (by omega) hne.2.2.2.2.1
    obtain ⟨Q, hQ9, rfl, hQc⟩ := int_n (n := 999) rfl (by omega) hne.2.2.2.2.2
    rw [hLc, hBc, hCc, hTc]
    split
    · exact hi
    · rename_i h2
      obtain ⟨x1, x2, x3, x4, x5, x6, x7, x8, x9⟩ := inv_g hi hL6 hB6
      have hg := hi.goes hLn hBn hC1 (Nat.not_lt.mp h2)
      have e0 : sp_goes s B L C 0 = s 0 := sp_goes_at (by omega) (by omega)
      have e1 : sp_goes s B L C 1 = s 1 := sp_goes_at (by omega) (by omega)
      have e13 : sp_goes s B L C (13 + 20 * L) = s (13 + 20 * L) := sp_goes_at (by omega) (by omega)
      have e14 : sp_goes s B L C (14 + 20 * L) = s (14 + 20 * L) := sp_goes_at (by omega) (by omega)
      have hh := ws_one (v := fun b => sv (sp_goes s B L C) (136 + 18 * b + 3 * L)) (w := fun b => sv s (136 + 18 * b + 3 * L)) 6 hB6 (fun b hb hne => sv_congr (sp_goes_at (by omega) (by omega)))
      have hh : hsum (sp_goes s B L C) L + sv s (136 + 18 * B + 3 * L) = hsum s L + sv (sp_goes s B L C) (136 + 18 * B + 3 * L) := hh
      have eB : sv (sp_goes s B L C) (136 + 18 * B + 3 * L) = sv s (136 + 18 * B + 3 * L) - C := sv_of (if_pos rfl) (by omega)
      exact hg.more (by rw [sv_congr e0]; exact hLn) (by rw [sv_congr e1]; exact hTn) (Or.inl (by rw [sv_congr e1]; exact hBn)) hQ9 (by omega) (fun q => by rw [sv_congr e13] at q; rw [sv_congr e14]; have := x8 q; omega)
theorem Inv.redeem {s : Nat → Int32} {l b c : Int32} (hi : Inv s) : Inv (sp_redeem s l b c).2 := by
  unfold sp_redeem
  split
  · exact hi
  · rename_i hne
    have hne := Classical.not_not.mp hne
    obtain ⟨L, hLn, hL6, rfl, hLc⟩ := inv_l hi hne.1
    obtain ⟨B, hBn, hB6, rfl, hBc⟩ := inv_b hi hne.2.1
    obtain ⟨C, hC1, hC9, rfl, hCc⟩ := int_p (n := 999) rfl (by omega) hne.2.2
    rw [hLc, hBc, hCc]
    split
    · exact hi
    · rename_i h2
      have h2 := Classical.not_not.mp h2
      obtain ⟨x1, x2, x3, x4, x5, x6, x7, x8, x9⟩ := inv_g hi hL6 hB6
      have hcl : sv s (13 + 20 * L) = 1 := by have := (hi.2.1 L hL6).2.2.2.2.1.1; omega
      have x8 := x8 hcl
      show Inv (sp_enter (upd (upd (upd (upd (sp_goes s B L C) (138 + 18 * B + 3 * L) (s (138 + 18 * B + 3 * L) + nI C)) (14 + 20 * L) (s (14 + 20 * L) - nI C)) (16 + 20 * L) (s (16 + 20 * L) + nI C)) 4 (s 4 + nI C)) 3 (nI L) (nI B) (nI C) (-2000000004) (-2000000004))
      have hat : ∀ j, j < 244 → j ≠ 6 → j ≠ 4 → j ≠ 14 + 20 * L → j ≠ 16 + 20 * L → j ≠ 138 + 18 * B + 3 * L → sp_enter (upd (upd (upd (upd (sp_goes s B L C) (138 + 18 * B + 3 * L) (s (138 + 18 * B + 3 * L) + nI C)) (14 + 20 * L) (s (14 + 20 * L) - nI C)) (16 + 20 * L) (s (16 + 20 * L) + nI C)) 4 (s 4 + nI C)) 3 (nI L) (nI B) (nI C) (-2000000004) (-2000000004) j = sp_goes s B L C j := fun j h1 h2 h3 h4 h5 h6 => by
        rw [sp_enter_at h1 h2]
        unfold upd
        rw [if_neg h3, if_neg h5, if_neg h4, if_neg h6]
      refine hi.hold (L := L) (B := B) (h' := sv s (136 + 18 * B + 3 * L) - C) (p' := sv s (137 + 18 * B + 3 * L) - sv s (137 + 18 * B + 3 * L) * C / sv s (136 + 18 * B + 3 * L)) (g' := sv s (138 + 18 * B + 3 * L) + C) (sh' := sv s (14 + 20 * L) - C) (dl' := sv s (16 + 20 * L) + C) hLn hBn (fun j h1 h2 h3 h4 h5 h6 h7 h8 h9 => by rw [hat j h1 h2 h3 h8 h9 h7, sp_goes_at h5 h6]) (fun b hb hge => by rw [hat _ (by omega) (by omega) (by omega) (by omega) (by omega) (by omega), sp_goes_at (by omega) (by omega)]) ?_ ?_ ?_ ?_ ?_ ?_ ?_ (by omega) (by omega) (by omega) (by omega) (fun q => by omega) (share_keep x6 h2.2 (by omega))
      · apply enter_6
        have e6 : upd (upd (upd (upd (sp_goes s B L C) (138 + 18 * B + 3 * L) (s (138 + 18 * B + 3 * L) + nI C)) (14 + 20 * L) (s (14 + 20 * L) - nI C)) (16 + 20 * L) (s (16 + 20 * L) + nI C)) 4 (s 4 + nI C) 6 = s 6 := by
          unfold upd
          rw [if_neg (by omega), if_neg (by omega), if_neg (by omega), if_neg (by omega), sp_goes_at (by omega) (by omega)]
        rw [sv_congr e6, e6]; exact hi.1.2.2.2.1
      · rw [hat _ (by omega) (by omega) (by omega) (by omega) (by omega) (by omega)]
        exact if_pos rfl
      · rw [hat _ (by omega) (by omega) (by omega) (by omega) (by omega) (by omega)]
        unfold sp_goes upd
        rw [if_neg (by omega), if_pos rfl]
      · rw [sp_enter_at (by omega) (by omega)]
        unfold upd
        rw [if_neg (by omega), if_neg (by omega), if_neg (by omega), if_pos rfl, x1, nI_add]
      · rw [sp_enter_at (by omega) (by omega)]
        unfold upd
        rw [if_neg (by omega), if_neg (by omega), if_pos rfl, x2, pk_sub (by omega)]
      · rw [sp_enter_at (by omega) (by omega)]
        unfold upd
        rw [if_neg (by omega), if_pos rfl, x3, nI_add]
      · rw [sp_enter_at (by omega) (by omega)]
        unfold upd
        rw [if_pos rfl, show sv s (16 + 20 * L) + C - sv s (16 + 20 * L) = C by omega]
