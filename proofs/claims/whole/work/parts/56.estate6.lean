/-! THE CLASS: a lot comes -/
theorem est_new {I J : mm_I} {e L B R : Nat} {s : Nat → Int32} (hi : Inv s) (hs : est_at I e s) (hL : sv s 0 = L) (hL6 : L < 6) (hB : B ≤ 12) (hR : R ≤ 50) (hJ : ∀ c, c ≠ e → c ≠ e + 7 + 6 * L + 1 → c ≠ e + 7 + 6 * L + 1 + 1 → J c = I c) (h4 : J e 4 = nI (L + 1)) (he : ∀ k, k ≠ 4 → J e k = I e k) (hw : wv_at J (e + 7 + 6 * L + 1) B R (fun k => if k < B then 2250 else 0)) : est_at J e (upd (fun j => if 17 + 20 * L ≤ j ∧ j < 17 + 20 * L + B then 2250 else upd (upd s (9 + 20 * L) (nI B)) (10 + 20 * L) (nI R) j) 0 (nI (L + 1))) := by
  have hat : ∀ j, j ≠ 0 → j ≠ 9 + 20 * L → j ≠ 10 + 20 * L → ¬ (17 + 20 * L ≤ j ∧ j < 17 + 20 * L + B) → (upd (fun j => if 17 + 20 * L ≤ j ∧ j < 17 + 20 * L + B then 2250 else upd (upd s (9 + 20 * L) (nI B)) (10 + 20 * L) (nI R) j) 0 (nI (L + 1))) j = s j := fun j h0 h1 h2 h3 => by
    show (if j = 0 then _ else if 17 + 20 * L ≤ j ∧ j < 17 + 20 * L + B then _ else if j = 10 + 20 * L then _ else if j = 9 + 20 * L then _ else s j) = s j
    rw [if_neg h0, if_neg h3, if_neg h2, if_neg h1]
  have hA : (upd (fun j => if 17 + 20 * L ≤ j ∧ j < 17 + 20 * L + B then 2250 else upd (upd s (9 + 20 * L) (nI B)) (10 + 20 * L) (nI R) j) 0 (nI (L + 1))) 0 = nI (L + 1) := if_pos rfl
  have e9 : (upd (fun j => if 17 + 20 * L ≤ j ∧ j < 17 + 20 * L + B then 2250 else upd (upd s (9 + 20 * L) (nI B)) (10 + 20 * L) (nI R) j) 0 (nI (L + 1))) (9 + 20 * L) = nI B := by
    show (if 9 + 20 * L = 0 then _ else if 17 + 20 * L ≤ 9 + 20 * L ∧ 9 + 20 * L < 17 + 20 * L + B then _ else if 9 + 20 * L = 10 + 20 * L then _ else if 9 + 20 * L = 9 + 20 * L then nI B else _) = nI B
    rw [if_neg (by omega), if_neg (by omega), if_neg (by omega), if_pos rfl]
  have e10 : (upd (fun j => if 17 + 20 * L ≤ j ∧ j < 17 + 20 * L + B then 2250 else upd (upd s (9 + 20 * L) (nI B)) (10 + 20 * L) (nI R) j) 0 (nI (L + 1))) (10 + 20 * L) = nI R := by
    show (if 10 + 20 * L = 0 then _ else if 17 + 20 * L ≤ 10 + 20 * L ∧ 10 + 20 * L < 17 + 20 * L + B then _ else if 10 + 20 * L = 10 + 20 * L then nI R else _) = nI R
    rw [if_neg (by omega), if_neg (by omega), if_pos rfl]
  have ew : ∀ k, k < B → (upd (fun j => if 17 + 20 * L ≤ j ∧ j < 17 + 20 * L + B then 2250 else upd (upd s (9 + 20 * L) (nI B)) (10 + 20 * L) (nI R) j) 0 (nI (L + 1))) (17 + 20 * L + k) = nI (if k < B then 2250 else 0) := fun k hk => by
    show (if 17 + 20 * L + k = 0 then _ else if 17 + 20 * L ≤ 17 + 20 * L + k ∧ 17 + 20 * L + k < 17 + 20 * L + B then 2250 else _) = nI (if k < B then 2250 else 0)
    rw [if_neg (by omega), if_pos ⟨by omega, by omega⟩, if_pos hk]
    rfl
  generalize upd (fun j => if 17 + 20 * L ≤ j ∧ j < 17 + 20 * L + B then 2250 else upd (upd s (9 + 20 * L) (nI B)) (10 + 20 * L) (nI R) j) 0 (nI (L + 1)) = s' at hat hA e9 e10 ew ⊢
  have ho : wv_ok B R (fun k => if k < B then 2250 else 0) := ⟨hB, hR, fun k => by show (if k < B then 2250 else 0) ≤ 2250; split <;> omega, fun k hk => by show 0 < (if k < B then 2250 else 0); rw [if_pos hk]; omega, fun k hk => by show (if k < B then 2250 else 0) = 0; rw [if_neg (by omega)]⟩
  obtain ⟨v9, vw⟩ := sw_of e9 ho ew
  have v10 := sv_of e10 (by omega)
  obtain ⟨⟨a4, a5, a6, a7, a8, a9, a10, a11⟩, b, c, d, f⟩ := hs
  refine ⟨⟨h4.trans hA.symm, ?_, ?_, ?_, ?_, ?_, ?_, ?_⟩, fun b' hb => ?_, ?_, fun k' hk' => ?_, fun l hl => ?_⟩
  · rw [he 5 (by omega), hat 1 (by omega) (by omega) (by omega) (by omega)]; exact a5
  · rw [he 6 (by omega), hat 135 (by omega) (by omega) (by omega) (by omega)]; exact a6
  · rw [he 7 (by omega), hat 7 (by omega) (by omega) (by omega) (by omega)]; exact a7
  · rw [he 8 (by omega), hat 8 (by omega) (by omega) (by omega) (by omega)]; exact a8
  · rw [he 9 (by omega), hat 2 (by omega) (by omega) (by omega) (by omega)]; exact a9
  · rw [he 10 (by omega), hat 3 (by omega) (by omega) (by omega) (by omega)]; exact a10
  · rw [he 11 (by omega), hat 5 (by omega) (by omega) (by omega) (by omega)]; exact a11
  · rw [hJ _ (by omega) (by omega) (by omega), hat _ (by omega) (by omega) (by omega) (by omega)]; exact b b' hb
  · rw [hJ _ (by omega) (by omega) (by omega), hat _ (by omega) (by omega) (by omega) (by omega)]; exact c
  · rw [hJ _ (by omega) (by omega) (by omega), hat _ (by omega) (by omega) (by omega) (by omega)]; exact d k' hk'
  · by_cases e2 : l = L
    · subst e2
      obtain ⟨g1, g2, g3, g4, g5, g6⟩ := f l hl
      refine ⟨by rw [v9, v10, vw]; exact hw, fun b hb => ?_, ?_, ?_, ?_, ?_⟩
      · rw [hJ _ (by omega) (by omega) (by omega), hJ _ (by omega) (by omega) (by omega), hJ _ (by omega) (by omega) (by omega), hat _ (by omega) (by omega) (by omega) (by omega), hat _ (by omega) (by omega) (by omega) (by omega), hat _ (by omega) (by omega) (by omega) (by omega)]
        exact g2 b hb
      · rw [hJ _ (by omega) (by omega) (by omega), hat _ (by omega) (by omega) (by omega) (by omega)]; exact g3
      · rw [hJ _ (by omega) (by omega) (by omega), hat _ (by omega) (by omega) (by omega) (by omega)]; exact g4
      · rw [hJ _ (by omega) (by omega) (by omega), hat _ (by omega) (by omega) (by omega) (by omega)]; exact g5
      · rw [hJ _ (by omega) (by omega) (by omega), hat _ (by omega) (by omega) (by omega) (by omega)]; exact g6
    · exact lot_at_congr (inv_n hi hl) (fun f hf => hat _ (by omega) (by omega) (by omega) (by omega)) (fun b hb f hf => hat _ (by omega) (by omega) (by omega) (by omega)) (lot_at_I (fun c h1 h2 => hJ c (by omega) (by omega) (by omega)) (f l hl))

