/-! THE INVARIANT IS KEPT: sums, wine, a lot's numbers -/
theorem ws_one {v w : Nat → Nat} {b : Nat} : ∀ n, b < n → (∀ k, k < n → k ≠ b → v k = w k) → ws_sum v n + w b = ws_sum w n + v b
  | 0, h, _ => absurd h (Nat.not_lt_zero b)
  | n + 1, h, g => by
    show ws_sum v n + v n + w b = ws_sum w n + w n + v b
    by_cases e : b = n
    · subst e
      have := ws_sum_congr (v := v) (w := w) b (fun k hk => g k (by omega) (by omega))
      omega
    · have h1 := ws_one (v := v) (w := w) n (by omega) (fun k hk hne => g k (by omega) hne)
      have h2 := g n (by omega) (fun q => e q.symm)
      omega
theorem ws_two {v w : Nat → Nat} {a b n : Nat} (ha : a < n) (hb : b < n) (hab : a ≠ b) (h : ∀ k, k < n → k ≠ a → k ≠ b → v k = w k) : ws_sum v n + w a + w b = ws_sum w n + v a + v b := by
  have h1 := ws_one (v := fun k => if k = a then v a else w k) (w := w) n ha (fun k _ hne => if_neg hne)
  have h2 := ws_one (v := v) (w := fun k => if k = a then v a else w k) n hb (fun k hk hne => by
    by_cases e : k = a
    · subst e; exact (if_pos rfl).symm
    · show v k = if k = a then v a else w k
      rw [if_neg e]; exact h k hk e hne)
  have h3 : (if a = a then v a else w a) = v a := if_pos rfl
  have h4 : (if b = a then v a else w b) = w b := if_neg (fun q => hab q.symm)
  rw [h3] at h1
  rw [h4] at h2
  omega
theorem ws_del {w : Nat → Nat} {b : Nat} : ∀ n, b ≤ n → ws_sum (w_del w b) n + w b = ws_sum w (n + 1)
  | 0, h => by
    have : b = 0 := by omega
    subst this
    rfl
  | n + 1, h => by
    show ws_sum (w_del w b) n + w_del w b n + w b = ws_sum w n + w n + w (n + 1)
    by_cases e : b = n + 1
    · subst e
      have h1 : ws_sum (w_del w (n + 1)) n = ws_sum w n := ws_sum_congr n (fun k hk => if_pos (by omega))
      have h2 : w_del w (n + 1) n = w n := if_pos (by omega)
      omega
    · have h1 := ws_del (w := w) (b := b) n (by omega)
      have h2 : ws_sum w (n + 1) = ws_sum w n + w n := rfl
      have h3 : w_del w b n = w (n + 1) := if_neg (by omega)
      omega
theorem ws_12 {n r : Nat} {w : Nat → Nat} (ho : wv_ok n r w) : ws_sum w 12 = ws_sum w n := ws_sum_0 12 ho.1 (fun k h1 _ => ho.2.2.2.2 k h1)
theorem sip_ok {n r b : Nat} {w : Nat → Nat} (ho : wv_ok n r w) (hb : b < n) (hw : 10 ≤ w b) : wv_ok (w_sipN n w b) r (w_sip w b) ∧ ws_sum (w_sip w b) (w_sipN n w b) + 10 = ws_sum w n := by
  have h12 := ho.1
  by_cases e : w b = 10
  · have e1 : w_sipN n w b = n - 1 := if_pos e
    have e2 : w_sip w b = w_del w b := if_pos e
    rw [e1, e2]
    refine ⟨⟨by omega, ho.2.1, fun k => ?_, fun k hk => ?_, fun k hk => ?_⟩, ?_⟩
    · unfold w_del; split
      · exact ho.2.2.1 k
      · exact ho.2.2.1 (k + 1)
    · unfold w_del; split
      · exact ho.2.2.2.1 k (by omega)
      · exact ho.2.2.2.1 (k + 1) (by omega)
    · unfold w_del; split
      · omega
      · exact ho.2.2.2.2 (k + 1) (by omega)
    · have h1 := ws_del (w := w) (b := b) (n - 1) (by omega)
      rw [show n - 1 + 1 = n by omega] at h1
      omega
  · have e1 : w_sipN n w b = n := if_neg e
    have e2 : w_sip w b = fun k => if k = b then w k - 10 else w k := if_neg e
    rw [e1, e2]
    refine ⟨⟨h12, ho.2.1, fun k => ?_, fun k hk => ?_, fun k hk => ?_⟩, ?_⟩
    · show (if k = b then w k - 10 else w k) ≤ 2250
      have := ho.2.2.1 k
      split <;> omega
    · show 0 < (if k = b then w k - 10 else w k)
      have := ho.2.2.2.1 k hk
      split
      · rename_i q; subst q; omega
      · omega
    · show (if k = b then w k - 10 else w k) = 0
      have := ho.2.2.2.2 k hk
      split <;> omega
    · have h1 := ws_one (v := fun k => if k = b then w k - 10 else w k) (w := w) n hb (fun k _ hne => if_neg hne)
      have h2 : (if b = b then w b - 10 else w b) = w b - 10 := if_pos rfl
      rw [h2] at h1
      omega
theorem pour_sum {x n : Nat} {w : Nat → Nat} (hx : x + 1 < n) (hn : n ≤ 12) (hw : w x ≤ 2250) : ws_sum (w_pour x n w) 12 = ws_sum w 12 := by
  have h1 := ws_two (v := w_pour x n w) (w := w) (a := x) (b := n - 1) (n := 12) (by omega) (by omega) (by omega) (fun k _ h1 h2 => by unfold w_pour; rw [if_neg h1, if_neg h2])
  have h2 : w_pour x n w x = w x + w_by x n w := if_pos rfl
  have h3 : w_pour x n w (n - 1) = w (n - 1) - w_by x n w := by unfold w_pour; rw [if_neg (by omega), if_pos rfl]
  have h4 : w_by x n w ≤ w (n - 1) := by unfold w_by; split <;> omega
  omega
theorem top_ok {r : Nat} : ∀ (f x n : Nat) (w : Nat → Nat), wv_ok n r w → wv_ok (w_top f x n w).1 r (w_top f x n w).2 ∧ ws_sum (w_top f x n w).2 12 = ws_sum w 12
  | 0, _, _, _, ho => ⟨ho, rfl⟩
  | f + 1, x, n, w, ho => by
    by_cases hx : x + 1 < n
    · have e : w_top (f + 1) x n w = w_top f (if w_pour x n w x < 2250 then x else x + 1) (if w_pour x n w (n - 1) = 0 then n - 1 else n) (w_pour x n w) := if_pos hx
      rw [e]
      have h1 := top_ok f (if w_pour x n w x < 2250 then x else x + 1) _ _ (w_pour_ok hx ho)
      exact ⟨h1.1, h1.2.trans (pour_sum hx ho.1 (ho.2.2.1 x))⟩
    · have e : w_top (f + 1) x n w = (n, w) := if_neg hx
      rw [e]
      exact ⟨ho, rfl⟩
def LotF (n r sc t cl sh bt dl : Nat) (w H P G : Nat → Nat) : Prop :=
  wv_ok n r w ∧ (sc ≤ 100 * t ∧ 10 * t + ws_sum w n ≤ 27000) ∧ (cl ≤ 1 ∧ (cl = 1 → n = 0) ∧ (cl = 0 → bt = 0)) ∧ (sh + dl = bt ∧ bt ≤ 300 ∧ dl = ws_sum G 6) ∧ (ws_sum H 6 ≤ 300 ∧ (cl = 1 → ws_sum H 6 ≤ sh)) ∧ ∀ b, b < 6 → P b ≤ 999 * H b
def lot_is (s : Nat → Int32) (l n r sc t cl sh bt dl : Nat) (w H P G : Nat → Nat) : Prop :=
  (s (9 + 20 * l) = nI n ∧ s (10 + 20 * l) = nI r ∧ s (11 + 20 * l) = nI sc ∧ s (12 + 20 * l) = nI t ∧ s (13 + 20 * l) = nI cl ∧ s (14 + 20 * l) = nI sh ∧ s (15 + 20 * l) = nI bt ∧ s (16 + 20 * l) = nI dl) ∧ (∀ k, k < n → s (17 + 20 * l + k) = nI (w k)) ∧ ∀ b, b < 6 → s (136 + 18 * b + 3 * l) = nI (H b) ∧ s (137 + 18 * b + 3 * l) = nI (P b) ∧ s (138 + 18 * b + 3 * l) = nI (G b)
theorem nI_sv {s : Nat → Int32} {j n : Nat} (h : s j = nI n) (hn : n < 2 ^ 31) : s j = nI (sv s j) := by rw [sv_of h hn]; exact h
theorem lot_mk {s : Nat → Int32} {l n r sc t cl sh bt dl : Nat} {w H P G : Nat → Nat} (h : lot_is s l n r sc t cl sh bt dl w H P G) (hF : LotF n r sc t cl sh bt dl w H P G) : lot_inv s l := by
  obtain ⟨⟨e0, e1, e2, e3, e4, e5, e6, e7⟩, ew, eb⟩ := h
  obtain ⟨f0, f1, f2, f3, f4, f5⟩ := hF
  have hn := f0.1
  have hr := f0.2.1
  have hH : ∀ b, b < 6 → H b ≤ 300 := fun b hb => Nat.le_trans (ws_sum_ge 6 b hb) f4.1
  have hG : ∀ b, b < 6 → G b ≤ 300 := fun b hb => by have := ws_sum_ge (w := G) 6 b hb; omega
  have v0 := sv_of e0 (by omega)
  have v1 := sv_of e1 (by omega)
  have v2 := sv_of e2 (by omega)
  have v3 := sv_of e3 (by omega)
  have v4 := sv_of e4 (by omega)
  have v5 := sv_of e5 (by omega)
  have v6 := sv_of e6 (by omega)
  have v7 := sv_of e7 (by omega)
  have vw : sw s l = w := by
    funext k
    unfold sw
    rw [v0]
    by_cases hk : k < n
    · rw [if_pos hk]
      exact sv_of (ew k hk) (by have := f0.2.2.1 k; omega)
    · rw [if_neg hk]
      exact (f0.2.2.2.2 k (by omega)).symm
  have vH : hsum s l = ws_sum H 6 := ws_sum_congr 6 (fun b hb => sv_of (eb b hb).1 (by have := hH b hb; omega))
  have vG : gsum s l = ws_sum G 6 := ws_sum_congr 6 (fun b hb => sv_of (eb b hb).2.2 (by have := hG b hb; omega))
  refine ⟨fun f hf => ?_, ?_, fun k hk => ?_, ?_, ?_, ?_, ?_, fun b hb => ⟨fun f hf => ?_, ?_⟩⟩
  · rcases Nat.lt_or_ge f 4 with hf4 | hf4
    · rcases Nat.lt_or_ge f 2 with hf2 | hf2
      · rcases Nat.lt_or_ge f 1 with hf1 | hf1
        · rw [show 9 + 20 * l + f = 9 + 20 * l by omega, v0]; exact e0
        · rw [show 9 + 20 * l + f = 10 + 20 * l by omega, v1]; exact e1
      · rcases Nat.lt_or_ge f 3 with hf1 | hf1
        · rw [show 9 + 20 * l + f = 11 + 20 * l by omega, v2]; exact e2
        · rw [show 9 + 20 * l + f = 12 + 20 * l by omega, v3]; exact e3
    · rcases Nat.lt_or_ge f 6 with hf2 | hf2
      · rcases Nat.lt_or_ge f 5 with hf1 | hf1
        · rw [show 9 + 20 * l + f = 13 + 20 * l by omega, v4]; exact e4
        · rw [show 9 + 20 * l + f = 14 + 20 * l by omega, v5]; exact e5
      · rcases Nat.lt_or_ge f 7 with hf1 | hf1
        · rw [show 9 + 20 * l + f = 15 + 20 * l by omega, v6]; exact e6
        · rw [show 9 + 20 * l + f = 16 + 20 * l by omega, v7]; exact e7
  · rw [v0, v1, vw]; exact f0
  · rw [v0] at hk
    exact nI_sv (ew k hk) (by have := f0.2.2.1 k; omega)
  · rw [v2, v3, v0, vw]; exact f1
  · rw [v4, v0, v6]; exact f2
  · rw [v5, v7, v6, vG]; exact f3
  · rw [vH, v4, v5]; exact f4
  · have hb2 := eb b hb
    have h1 := hH b hb
    have h2 := hG b hb
    have h3 := f5 b hb
    rcases Nat.lt_or_ge f 1 with hf1 | hf1
    · rw [show 136 + 18 * b + 3 * l + f = 136 + 18 * b + 3 * l by omega]; exact nI_sv hb2.1 (by omega)
    · rcases Nat.lt_or_ge f 2 with hf2 | hf2
      · rw [show 136 + 18 * b + 3 * l + f = 137 + 18 * b + 3 * l by omega]; exact nI_sv hb2.2.1 (by omega)
      · rw [show 136 + 18 * b + 3 * l + f = 138 + 18 * b + 3 * l by omega]; exact nI_sv hb2.2.2 (by omega)
  · have hb2 := eb b hb
    have h1 := hH b hb
    have h3 := f5 b hb
    rw [sv_of hb2.1 (by omega), sv_of hb2.2.1 (by omega)]
    exact h3
theorem lot_get {s : Nat → Int32} {l : Nat} (h : lot_inv s l) : ∃ n r sc t cl sh bt dl w H P G, (sv s (9 + 20 * l) = n ∧ sv s (10 + 20 * l) = r ∧ sv s (11 + 20 * l) = sc ∧ sv s (12 + 20 * l) = t ∧ sv s (13 + 20 * l) = cl ∧ sv s (14 + 20 * l) = sh ∧ sv s (15 + 20 * l) = bt ∧ sv s (16 + 20 * l) = dl) ∧ sw s l = w ∧ (∀ b, sv s (136 + 18 * b + 3 * l) = H b ∧ sv s (137 + 18 * b + 3 * l) = P b ∧ sv s (138 + 18 * b + 3 * l) = G b) ∧ hsum s l = ws_sum H 6 ∧ lot_is s l n r sc t cl sh bt dl w H P G ∧ LotF n r sc t cl sh bt dl w H P G := by
  refine ⟨_, _, _, _, _, _, _, _, sw s l, fun b => sv s (136 + 18 * b + 3 * l), fun b => sv s (137 + 18 * b + 3 * l), fun b => sv s (138 + 18 * b + 3 * l), ⟨rfl, rfl, rfl, rfl, rfl, rfl, rfl, rfl⟩, rfl, fun b => ⟨rfl, rfl, rfl⟩, rfl, ⟨⟨?_, ?_, ?_, ?_, ?_, ?_, ?_, ?_⟩, fun k hk => inv_w h hk, fun b hb => ?_⟩, h.2.1, h.2.2.2.1, h.2.2.2.2.1, h.2.2.2.2.2.1, h.2.2.2.2.2.2.1, fun b hb => (h.2.2.2.2.2.2.2 b hb).2⟩
  · exact inv_f h 0 (by omega)
  · exact inv_f h 1 (by omega)
  · exact inv_f h 2 (by omega)
  · exact inv_f h 3 (by omega)
  · exact inv_f h 4 (by omega)
  · exact inv_f h 5 (by omega)
  · exact inv_f h 6 (by omega)
  · exact inv_f h 7 (by omega)
  · have hb3 := (h.2.2.2.2.2.2.2 b hb).1
    refine ⟨hb3 0 (by omega), ?_, ?_⟩
    · have := hb3 1 (by omega)
      rw [show 136 + 18 * b + 3 * l + 1 = 137 + 18 * b + 3 * l by omega] at this
      exact this
    · have := hb3 2 (by omega)
      rw [show 136 + 18 * b + 3 * l + 2 = 138 + 18 * b + 3 * l by omega] at this
      exact this
theorem lot_congr {s s' : Nat → Int32} {l : Nat} (h : lot_inv s l) (h1 : ∀ f, f < 20 → s' (9 + f + 20 * l) = s (9 + f + 20 * l)) (h2 : ∀ b, b < 6 → ∀ f, f < 3 → s' (136 + 18 * b + 3 * l + f) = s (136 + 18 * b + 3 * l + f)) : lot_inv s' l := by
  obtain ⟨n, r, sc, t, cl, sh, bt, dl, w, H, P, G, _, _, _, _, hI, hF⟩ := lot_get h
  have hn := hF.1.1
  refine lot_mk ⟨⟨?_, ?_, ?_, ?_, ?_, ?_, ?_, ?_⟩, fun k hk => ?_, fun b hb => ⟨?_, ?_, ?_⟩⟩ hF
  · exact (h1 0 (by omega)).trans hI.1.1
  · exact (h1 1 (by omega)).trans hI.1.2.1
  · exact (h1 2 (by omega)).trans hI.1.2.2.1
  · exact (h1 3 (by omega)).trans hI.1.2.2.2.1
  · exact (h1 4 (by omega)).trans hI.1.2.2.2.2.1
  · exact (h1 5 (by omega)).trans hI.1.2.2.2.2.2.1
  · exact (h1 6 (by omega)).trans hI.1.2.2.2.2.2.2.1
  · exact (h1 7 (by omega)).trans hI.1.2.2.2.2.2.2.2
  · have := h1 (8 + k) (by omega)
    rw [show 9 + (8 + k) + 20 * l = 17 + 20 * l + k by omega] at this
    exact this.trans (hI.2.1 k hk)
  · exact (h2 b hb 0 (by omega)).trans (hI.2.2 b hb).1
  · have := h2 b hb 1 (by omega)
    rw [show 136 + 18 * b + 3 * l + 1 = 137 + 18 * b + 3 * l by omega] at this
    exact this.trans (hI.2.2 b hb).2.1
  · have := h2 b hb 2 (by omega)
    rw [show 136 + 18 * b + 3 * l + 2 = 138 + 18 * b + 3 * l by omega] at this
    exact this.trans (hI.2.2 b hb).2.2
theorem sv_congr {s s' : Nat → Int32} {j : Nat} (h : s' j = s j) : sv s' j = sv s j := by unfold sv; rw [h]
/-- one lot L alone, of those there are, has changed -/
theorem Inv.one {s s' : Nat → Int32} {L d : Nat} (hi : Inv s) (hL : L < sv s 0) (g0 : s' 0 = s 0) (g1 : s' 1 = s 1) (g2 : s' 2 = s 2) (g6 : s' 6 = nI (sv s' 6) ∧ sv s' 6 ≤ 12) (g7 : s' 7 = s 7) (g8 : s' 8 = s 8) (hl : ∀ l, l < 6 → l ≠ L → ∀ f, f < 20 → s' (9 + f + 20 * l) = s (9 + f + 20 * l)) (hh : ∀ l, l < 6 → l ≠ L → ∀ b, b < 6 → ∀ f, f < 3 → s' (136 + 18 * b + 3 * l + f) = s (136 + 18 * b + 3 * l + f)) (hLi : lot_inv s' L) (hb : ∀ b, b < 6 → sv s 1 ≤ b → s' (129 + b) = s (129 + b) ∧ ∀ f, f < 3 → s' (136 + 18 * b + 3 * L + f) = s (136 + 18 * b + 3 * L + f)) (hd : sv s' (16 + 20 * L) = sv s (16 + 20 * L) + d) (g4 : s' 4 = s 4 + nI d) : Inv s' := by
  obtain ⟨⟨a0, a1, a2, a6, a7, a8⟩, b1, b2, b3, b4⟩ := hi
  have hL6 : L < 6 := by omega
  refine ⟨⟨?_, ?_, ?_, g6, ?_, ?_⟩, fun l hl6 => ?_, fun l hl6 hge => ?_, fun b hb6 hge => ?_, ?_⟩
  · rw [g0, sv_congr g0]; exact a0
  · rw [g1, sv_congr g1]; exact a1
  · rw [g2, sv_congr g2]; exact a2
  · rw [g7, sv_congr g7]; exact a7
  · rw [g8, sv_congr g8]; exact a8
  · by_cases e : l = L
    · subst e; exact hLi
    · exact lot_congr (b1 l hl6) (hl l hl6 e) (hh l hl6 e)
  · rw [sv_congr g0] at hge
    have hne : l ≠ L := by omega
    obtain ⟨c1, c2⟩ := b2 l hl6 hge
    refine ⟨fun f hf => ?_, fun b hb6 f hf => ?_⟩
    · rw [show 9 + 20 * l + f = 9 + f + 20 * l by omega, sv_congr (hl l hl6 hne f (by omega)), show 9 + f + 20 * l = 9 + 20 * l + f by omega]
      exact c1 f hf
    · rw [sv_congr (hh l hl6 hne b hb6 f hf)]
      exact c2 b hb6 f hf
  · rw [sv_congr g1] at hge
    obtain ⟨c1, c2⟩ := b3 b hb6 hge
    refine ⟨by rw [(hb b hb6 hge).1]; exact c1, fun l hl6 f hf => ?_⟩
    by_cases e : l = L
    · subst e
      rw [sv_congr ((hb b hb6 hge).2 f hf)]
      exact c2 l hl6 f hf
    · rw [sv_congr (hh l hl6 e b hb6 f hf)]
      exact c2 l hl6 f hf
  · have h1 := ws_one (v := fun l => sv s' (16 + 20 * l)) (w := fun l => sv s (16 + 20 * l)) 6 hL6 (fun l hl6 hne => by
      have := hl l hl6 hne 7 (by omega)
      exact sv_congr this)
    have h1 : ws_sum (fun l => sv s' (16 + 20 * l)) 6 + sv s (16 + 20 * L) = ws_sum (fun l => sv s (16 + 20 * l)) 6 + sv s' (16 + 20 * L) := h1
    rw [g4, b4, nI_add]
    exact congrArg nI (by omega)
