/-! THE INVARIANT IS KEPT by every operation -/
theorem Inv.glob {s s' : Nat → Int32} {a c : Nat} (hi : Inv s) (h0 : s' 0 = nI a) (ha : a ≤ 6) (ha2 : sv s 0 ≤ a) (h1 : s' 1 = nI c) (hc : c ≤ 6) (hc2 : sv s 1 ≤ c) (h2 : s' 2 = nI (sv s' 2) ∧ sv s' 2 ≤ 999) (h6 : s' 6 = nI (sv s' 6) ∧ sv s' 6 ≤ 12) (h7 : s' 7 = nI (sv s' 7) ∧ sv s' 7 ≤ 100) (h8 : s' 8 = nI (sv s' 8) ∧ sv s' 8 ≤ 36) (h4 : s' 4 = s 4) (h : ∀ j, 9 ≤ j → j < 244 → s' j = s j) : Inv s' := by
  obtain ⟨⟨a0, a1, a2, a6, a7, a8⟩, b1, b2, b3, b4⟩ := hi
  have v0 := sv_of h0 (by omega)
  have v1 := sv_of h1 (by omega)
  refine ⟨⟨⟨by rw [v0]; exact h0, by omega⟩, ⟨by rw [v1]; exact h1, by omega⟩, h2, h6, h7, h8⟩, fun l hl6 => lot_congr (b1 l hl6) (fun f hf => h _ (by omega) (by omega)) (fun b hb f hf => h _ (by omega) (by omega)), fun l hl6 hge => ?_, fun b hb6 hge => ?_, ?_⟩
  · obtain ⟨c1, c2⟩ := b2 l hl6 (by omega)
    exact ⟨fun f hf => by rw [sv_congr (h _ (by omega) (by omega))]; exact c1 f hf, fun b hb f hf => by rw [sv_congr (h _ (by omega) (by omega))]; exact c2 b hb f hf⟩
  · obtain ⟨c1, c2⟩ := b3 b hb6 (by omega)
    exact ⟨by rw [h _ (by omega) (by omega)]; exact c1, fun l hl f hf => by rw [sv_congr (h _ (by omega) (by omega))]; exact c2 l hl f hf⟩
  · rw [h4, b4]
    refine congrArg nI (ws_sum_congr 6 (fun l hl => ?_)).symm
    exact sv_congr (h _ (by omega) (by omega))
theorem Inv.buyer {s : Nat → Int32} (hi : Inv s) : Inv (sp_buyer s).2 := by
  unfold sp_buyer
  split
  · exact hi
  · rename_i hne
    have hA := hi.1
    obtain ⟨a0, a1, a2, a6, a7, a8⟩ := hA
    have hlt : sv s 1 < 6 := by
      rcases Nat.lt_or_ge (sv s 1) 6 with e | e
      · exact e
      · exact absurd (by rw [a1.1, show sv s 1 = 6 by omega]; rfl) hne
    have hu : ∀ j, j ≠ 1 → upd s 1 (nI (sv s 1 + 1)) j = s j := fun j hj => if_neg hj
    show Inv (upd s 1 (nI (sv s 1 + 1)))
    exact hi.glob (a := sv s 0) (c := sv s 1 + 1) ((hu 0 (by omega)).trans a0.1) a0.2 (Nat.le_refl _) (if_pos rfl) (by omega) (by omega) (by rw [sv_congr (hu 2 (by omega)), hu 2 (by omega)]; exact a2) (by rw [sv_congr (hu 6 (by omega)), hu 6 (by omega)]; exact a6) (by rw [sv_congr (hu 7 (by omega)), hu 7 (by omega)]; exact a7) (by rw [sv_congr (hu 8 (by omega)), hu 8 (by omega)]; exact a8) (hu 4 (by omega)) (fun j h1 _ => hu j (by omega))
theorem Inv.set {s : Nat → Int32} {w v : Int32} (hi : Inv s) : Inv (sp_set s w v).2 := by
  unfold sp_set
  rcases Classical.em ((0 ≤ w ∧ w ≤ 1) ∧ (0 ≤ v ∧ v ≤ (if w = 0 then 100 else 36))) with hne | hne
  case inr => rw [if_pos hne]; exact hi
  · rw [if_neg (fun q => q hne)]
    show Inv (upd s (7 + w.toNatClampNeg) v)
    have hA := hi.1
    obtain ⟨a0, a1, a2, a6, a7, a8⟩ := hA
    obtain ⟨W, hW1, rfl, hWc⟩ := int_n (n := 1) rfl (by omega) hne.1
    have hv := hne.2
    rw [hWc]
    have hu : ∀ j, j ≠ 7 + W → upd s (7 + W) v j = s j := fun j hj => if_neg hj
    have h78 : (upd s (7 + W) v 7 = nI (sv (upd s (7 + W) v) 7) ∧ sv (upd s (7 + W) v) 7 ≤ 100) ∧ (upd s (7 + W) v 8 = nI (sv (upd s (7 + W) v) 8) ∧ sv (upd s (7 + W) v) 8 ≤ 36) := by
      rcases Nat.eq_zero_or_pos W with e | e
      · subst e
        rw [if_pos (show nI 0 = 0 from rfl)] at hv
        obtain ⟨V, hV, rfl, hVc⟩ := int_n (n := 100) rfl (by omega) hv
        have e7 : upd s (7 + 0) (nI V) 7 = nI V := if_pos rfl
        have e8 := hu 8 (by omega)
        rw [sv_of e7 (by omega), sv_congr e8, e8]
        exact ⟨⟨e7, hV⟩, a8⟩
      · have : W = 1 := by omega
        subst this
        rw [if_neg (by decide)] at hv
        obtain ⟨V, hV, rfl, hVc⟩ := int_n (n := 36) rfl (by omega) hv
        have e8 : upd s (7 + 1) (nI V) 8 = nI V := if_pos rfl
        have e7 := hu 7 (by omega)
        rw [sv_of e8 (by omega), sv_congr e7, e7]
        exact ⟨a7, e8, hV⟩
    exact hi.glob (a := sv s 0) (c := sv s 1) ((hu 0 (by omega)).trans a0.1) a0.2 (Nat.le_refl _) ((hu 1 (by omega)).trans a1.1) a1.2 (Nat.le_refl _) (by rw [sv_congr (hu 2 (by omega)), hu 2 (by omega)]; exact a2) (by rw [sv_congr (hu 6 (by omega)), hu 6 (by omega)]; exact a6) h78.1 h78.2 (hu 4 (by omega)) (fun j h1 _ => hu j (by omega))
/-- a lot's wine and its tastings alone have changed -/
theorem Inv.wine {s s' : Nat → Int32} {L N sc' t' : Nat} {w' : Nat → Nat} (hi : Inv s) (hL : L < sv s 0) (hat : ∀ j, j ≠ 9 + 20 * L → j ≠ 11 + 20 * L → j ≠ 12 + 20 * L → ¬ (17 + 20 * L ≤ j ∧ j < 29 + 20 * L) → s' j = s j) (e9 : s' (9 + 20 * L) = nI N) (e11 : s' (11 + 20 * L) = nI sc') (e12 : s' (12 + 20 * L) = nI t') (ew : ∀ k, k < N → s' (17 + 20 * L + k) = nI (w' k)) (ho : wv_ok N (sv s (10 + 20 * L)) w') (hN : sv s (9 + 20 * L) = 0 → N = 0) (hf : sc' ≤ 100 * t' ∧ 10 * t' + ws_sum w' N ≤ 27000) : Inv s' := by
  have hL6 : L < 6 := by have := hi.1.1.2; omega
  have a6 := hi.1.2.2.2.1
  obtain ⟨n, r, sc, t, cl, sh, bt, dl, w, H, P, G, ⟨i0, i1, i2, i3, i4, i5, i6, i7⟩, _, _, _, hI, hF⟩ := lot_get (hi.2.1 L hL6)
  obtain ⟨⟨q0, q1, q2, q3, q4, q5, q6, q7⟩, qw, qb⟩ := hI
  rw [i1] at ho
  rw [i0] at hN
  refine hi.one (L := L) (d := 0) hL (hat 0 (by omega) (by omega) (by omega) (by omega)) (hat 1 (by omega) (by omega) (by omega) (by omega)) (hat 2 (by omega) (by omega) (by omega) (by omega)) (by rw [sv_congr (hat 6 (by omega) (by omega) (by omega) (by omega)), hat 6 (by omega) (by omega) (by omega) (by omega)]; exact a6) (hat 7 (by omega) (by omega) (by omega) (by omega)) (hat 8 (by omega) (by omega) (by omega) (by omega)) (fun l hl hne f hf => hat _ (by omega) (by omega) (by omega) (by omega)) (fun l hl hne b hb f hf => hat _ (by omega) (by omega) (by omega) (by omega)) ?_ (fun b hb hge => ⟨hat _ (by omega) (by omega) (by omega) (by omega), fun f hf => hat _ (by omega) (by omega) (by omega) (by omega)⟩) (by rw [sv_congr (hat (16 + 20 * L) (by omega) (by omega) (by omega) (by omega))]; rfl) (by rw [hat 4 (by omega) (by omega) (by omega) (by omega), nI_0]; exact (Int32.add_zero _).symm)
  obtain ⟨f0, f1, f2, f3, f4, f5⟩ := hF
  refine lot_mk (n := N) (r := r) (sc := sc') (t := t') (cl := cl) (sh := sh) (bt := bt) (dl := dl) (w := w') (H := H) (P := P) (G := G) ⟨⟨e9, ?_, e11, e12, ?_, ?_, ?_, ?_⟩, ew, fun b hb => ⟨?_, ?_, ?_⟩⟩ ⟨ho, hf, ⟨f2.1, fun q => hN (f2.2.1 q), f2.2.2⟩, f3, f4, f5⟩
  · rw [hat _ (by omega) (by omega) (by omega) (by omega)]; exact q1
  · rw [hat _ (by omega) (by omega) (by omega) (by omega)]; exact q4
  · rw [hat _ (by omega) (by omega) (by omega) (by omega)]; exact q5
  · rw [hat _ (by omega) (by omega) (by omega) (by omega)]; exact q6
  · rw [hat _ (by omega) (by omega) (by omega) (by omega)]; exact q7
  · rw [hat _ (by omega) (by omega) (by omega) (by omega)]; exact (qb b hb).1
  · rw [hat _ (by omega) (by omega) (by omega) (by omega)]; exact (qb b hb).2.1
  · rw [hat _ (by omega) (by omega) (by omega) (by omega)]; exact (qb b hb).2.2
theorem w_lay_at {s : Nat → Int32} {l n j : Nat} {f : Nat → Int32} (h1 : j ≠ 9 + 20 * l) (h2 : ¬ (17 + 20 * l ≤ j ∧ j < 17 + 20 * l + n)) : w_lay s l n f j = s j := by
  unfold w_lay
  rw [if_neg h1, if_neg h2]
theorem w_lay_9 {s : Nat → Int32} {l n : Nat} {f : Nat → Int32} : w_lay s l n f (9 + 20 * l) = nI n := if_pos rfl
theorem w_lay_k {s : Nat → Int32} {l n k : Nat} {f : Nat → Int32} (hk : k < n) : w_lay s l n f (17 + 20 * l + k) = f k := by
  unfold w_lay
  rw [if_neg (by omega), if_pos ⟨by omega, by omega⟩, show 17 + 20 * l + k - (17 + 20 * l) = k by omega]
theorem Inv.taste {s : Nat → Int32} {l c : Int32} (hi : Inv s) : Inv (sp_taste s l c).2 := by
  unfold sp_taste
  split
  · exact hi
  · rename_i hne
    have hne := Classical.not_not.mp hne
    obtain ⟨L, hLn, hL6, rfl, hLc⟩ := inv_l hi hne.1
    obtain ⟨C, hC, rfl, hCc⟩ := int_n (n := 100) rfl (by omega) hne.2
    rw [hLc, hCc]
    have hlt := hi.2.1 L hL6
    have hok := hlt.2.1
    split
    · exact hi
    · rename_i b hb
      obtain ⟨k1, k2, k3, k4⟩ := w_find_some hb
      have hw10 : 10 ≤ sw s L b := of_decide_eq_true k3
      obtain ⟨o1, o2⟩ := sip_ok hok (by omega) hw10
      have h12 := o1.1
      have hsum := hlt.2.2.2.1
      refine hi.wine (L := L) (N := w_sipN (sv s (9 + 20 * L)) (sw s L) b) (sc' := sv s (11 + 20 * L) + C) (t' := sv s (12 + 20 * L) + 1) (w' := w_sip (sw s L) b) hLn (fun j h1 h2 h3 h4 => ?_) ?_ ?_ ?_ (fun k hk => ?_) o1 (fun q => ?_) ⟨?_, ?_⟩
      · show upd (upd _ _ _) _ _ j = s j
        unfold upd
        rw [if_neg h3, if_neg h2, w_lay_at h1 (by omega)]
      · show upd (upd _ _ _) _ _ _ = _
        unfold upd
        rw [if_neg (by omega), if_neg (by omega), w_lay_9]
      · show upd (upd _ _ _) _ _ _ = _
        unfold upd
        rw [if_neg (by omega), if_pos rfl]
      · exact if_pos rfl
      · show upd (upd _ _ _) _ _ _ = _
        unfold upd
        rw [if_neg (by omega), if_neg (by omega), w_lay_k hk]
      · omega
      · omega
      · omega
theorem Inv.top {s : Nat → Int32} {l : Int32} (hi : Inv s) : Inv (sp_top s l).2 := by
  unfold sp_top
  split
  · exact hi
  · rename_i hne
    have hne := Classical.not_not.mp hne
    obtain ⟨L, hLn, hL6, rfl, hLc⟩ := inv_l hi hne
    rw [hLc]
    have hlt := hi.2.1 L hL6
    have hok := hlt.2.1
    split
    · exact hi
    · rename_i b hb
      obtain ⟨k1, k2, k3, k4⟩ := w_find_some hb
      obtain ⟨o1, o2⟩ := top_ok 24 0 _ _ hok
      rw [ws_12 o1, ws_12 hok] at o2
      have h12 := o1.1
      have hsum := hlt.2.2.2.1
      have e11 := inv_f hlt 2 (by omega)
      have e12 := inv_f hlt 3 (by omega)
      show Inv (w_lay s L (w_top 24 0 (sv s (9 + 20 * L)) (sw s L)).1 (fun k => nI ((w_top 24 0 (sv s (9 + 20 * L)) (sw s L)).2 k)))
      refine hi.wine (L := L) (N := (w_top 24 0 (sv s (9 + 20 * L)) (sw s L)).1) (sc' := sv s (11 + 20 * L)) (t' := sv s (12 + 20 * L)) (w' := (w_top 24 0 (sv s (9 + 20 * L)) (sw s L)).2) hLn (fun j h1 h2 h3 h4 => w_lay_at h1 (by omega)) w_lay_9 ?_ ?_ (fun k hk => w_lay_k hk) o1 (fun q => by omega) ⟨hsum.1, by omega⟩
      · show w_lay _ _ _ _ _ = _
        rw [w_lay_at (by omega) (by omega)]
        exact e11
      · show w_lay _ _ _ _ _ = _
        rw [w_lay_at (by omega) (by omega)]
        exact e12
theorem Inv.lot {s : Nat → Int32} {b r : Int32} (hi : Inv s) : Inv (sp_lot s b r).2 := by
  unfold sp_lot
  split
  · exact hi
  · rename_i hne
    have hne := Classical.not_not.mp hne
    split
    · exact hi
    · rename_i h6
      obtain ⟨B, hB1, hB12, rfl, hBc⟩ := int_p (n := 12) rfl (by omega) hne.1
      obtain ⟨R, hR, rfl, hRc⟩ := int_n (n := 50) rfl (by omega) hne.2
      rw [hBc]
      show Inv (upd (fun j => if 17 + 20 * sv s 0 ≤ j ∧ j < 17 + 20 * sv s 0 + B then 2250 else upd (upd s (9 + 20 * sv s 0) (nI B)) (10 + 20 * sv s 0) (nI R) j) 0 (nI (sv s 0 + 1)))
      have hA := hi.1
      obtain ⟨a0, a1, a2, a6, a7, a8⟩ := hA
      have hlt : sv s 0 < 6 := by
        rcases Nat.lt_or_ge (sv s 0) 6 with e | e
        · exact e
        · exact absurd (by rw [a0.1, show sv s 0 = 6 by omega]; rfl) h6
      generalize hL : sv s 0 = L at *
      have hu : ∀ j, j ≠ 0 → upd s 0 (nI (L + 1)) j = s j := fun j hj => if_neg hj
      have hi1 : Inv (upd s 0 (nI (L + 1))) := hi.glob (a := L + 1) (c := sv s 1) (if_pos rfl) (by omega) (by omega) ((hu 1 (by omega)).trans a1.1) a1.2 (Nat.le_refl _) (by rw [sv_congr (hu 2 (by omega)), hu 2 (by omega)]; exact a2) (by rw [sv_congr (hu 6 (by omega)), hu 6 (by omega)]; exact a6) (by rw [sv_congr (hu 7 (by omega)), hu 7 (by omega)]; exact a7) (by rw [sv_congr (hu 8 (by omega)), hu 8 (by omega)]; exact a8) (hu 4 (by omega)) (fun j h1 _ => hu j (by omega))
      have e0 : sv (upd s 0 (nI (L + 1))) 0 = L + 1 := sv_of (if_pos rfl) (by omega)
      obtain ⟨z1, z2⟩ := hi.2.2.1 L hlt (by omega)
      have hat : ∀ j, j ≠ 0 → j ≠ 9 + 20 * L → j ≠ 10 + 20 * L → ¬ (17 + 20 * L ≤ j ∧ j < 17 + 20 * L + B) → upd (fun j => if 17 + 20 * L ≤ j ∧ j < 17 + 20 * L + B then 2250 else upd (upd s (9 + 20 * L) (nI B)) (10 + 20 * L) (nI R) j) 0 (nI (L + 1)) j = s j := fun j h0 h1 h2 h3 => by
        show (if j = 0 then _ else if 17 + 20 * L ≤ j ∧ j < 17 + 20 * L + B then _ else if j = 10 + 20 * L then _ else if j = 9 + 20 * L then _ else s j) = s j
        rw [if_neg h0, if_neg h3, if_neg h2, if_neg h1]
      have hat1 : ∀ j, j ≠ 9 + 20 * L → j ≠ 10 + 20 * L → ¬ (17 + 20 * L ≤ j ∧ j < 17 + 20 * L + B) → upd (fun j => if 17 + 20 * L ≤ j ∧ j < 17 + 20 * L + B then 2250 else upd (upd s (9 + 20 * L) (nI B)) (10 + 20 * L) (nI R) j) 0 (nI (L + 1)) j = upd s 0 (nI (L + 1)) j := fun j h1 h2 h3 => by
        by_cases h0 : j = 0
        · subst h0
          show (if 0 = 0 then _ else _) = (if 0 = 0 then _ else _)
          rw [if_pos rfl, if_pos rfl]
        · rw [hat j h0 h1 h2 h3, hu j h0]
      obtain ⟨n, r, sc, t, cl, sh, bt, dl, w, H, P, G, ⟨i0, i1, i2, i3, i4, i5, i6, i7⟩, _, _, _, hI, hF⟩ := lot_get (hi.2.1 L hlt)
      obtain ⟨⟨q0, q1, q2, q3, q4, q5, q6, q7⟩, qw, qb⟩ := hI
      obtain ⟨f0, f1, f2, f3, f4, f5⟩ := hF
      have s2 : sc = 0 := by have := z1 2 (by omega); rw [show 9 + 20 * L + 2 = 11 + 20 * L by omega, i2] at this; exact this
      have s3 : t = 0 := by have := z1 3 (by omega); rw [show 9 + 20 * L + 3 = 12 + 20 * L by omega, i3] at this; exact this
      have s4 : cl = 0 := by have := z1 4 (by omega); rw [show 9 + 20 * L + 4 = 13 + 20 * L by omega, i4] at this; exact this
      refine hi1.one (L := L) (d := 0) (by omega) (hat1 0 (by omega) (by omega) (by omega)) (hat1 1 (by omega) (by omega) (by omega)) (hat1 2 (by omega) (by omega) (by omega)) (by rw [sv_congr (hat 6 (by omega) (by omega) (by omega) (by omega)), hat 6 (by omega) (by omega) (by omega) (by omega)]; exact a6) (hat1 7 (by omega) (by omega) (by omega)) (hat1 8 (by omega) (by omega) (by omega)) (fun l hl hne f hf => hat1 _ (by omega) (by omega) (by omega)) (fun l hl hne b hb f hf => hat1 _ (by omega) (by omega) (by omega)) ?_ (fun b hb hge => ⟨hat1 _ (by omega) (by omega) (by omega), fun f hf => hat1 _ (by omega) (by omega) (by omega)⟩) (by rw [sv_congr (hat1 (16 + 20 * L) (by omega) (by omega) (by omega))]; rfl) (by rw [hat1 4 (by omega) (by omega) (by omega), nI_0]; exact (Int32.add_zero _).symm)
      refine lot_mk (n := B) (r := R) (sc := sc) (t := t) (cl := cl) (sh := sh) (bt := bt) (dl := dl) (w := fun k => if k < B then 2250 else 0) (H := H) (P := P) (G := G) ⟨⟨?_, ?_, ?_, ?_, ?_, ?_, ?_, ?_⟩, fun k hk => ?_, fun b hb => ⟨?_, ?_, ?_⟩⟩ ⟨⟨hB12, hR, fun k => ?_, fun k hk => ?_, fun k hk => ?_⟩, ⟨f1.1, ?_⟩, ⟨f2.1, fun q => by omega, f2.2.2⟩, f3, f4, f5⟩
      · show (if 9 + 20 * L = 0 then _ else if 17 + 20 * L ≤ 9 + 20 * L ∧ 9 + 20 * L < 17 + 20 * L + B then _ else if 9 + 20 * L = 10 + 20 * L then _ else if 9 + 20 * L = 9 + 20 * L then nI B else _) = nI B
        rw [if_neg (by omega), if_neg (by omega), if_neg (by omega), if_pos rfl]
      · show (if 10 + 20 * L = 0 then _ else if 17 + 20 * L ≤ 10 + 20 * L ∧ 10 + 20 * L < 17 + 20 * L + B then _ else if 10 + 20 * L = 10 + 20 * L then nI R else _) = nI R
        rw [if_neg (by omega), if_neg (by omega), if_pos rfl]
      · rw [hat _ (by omega) (by omega) (by omega) (by omega)]; exact q2
      · rw [hat _ (by omega) (by omega) (by omega) (by omega)]; exact q3
      · rw [hat _ (by omega) (by omega) (by omega) (by omega)]; exact q4
      · rw [hat _ (by omega) (by omega) (by omega) (by omega)]; exact q5
      · rw [hat _ (by omega) (by omega) (by omega) (by omega)]; exact q6
      · rw [hat _ (by omega) (by omega) (by omega) (by omega)]; exact q7
      · show (if 17 + 20 * L + k = 0 then _ else if 17 + 20 * L ≤ 17 + 20 * L + k ∧ 17 + 20 * L + k < 17 + 20 * L + B then 2250 else _) = nI (if k < B then 2250 else 0)
        rw [if_neg (by omega), if_pos ⟨by omega, by omega⟩, if_pos hk]
        rfl
      · rw [hat _ (by omega) (by omega) (by omega) (by omega)]; exact (qb b hb).1
      · rw [hat _ (by omega) (by omega) (by omega) (by omega)]; exact (qb b hb).2.1
      · rw [hat _ (by omega) (by omega) (by omega) (by omega)]; exact (qb b hb).2.2
      · show (if k < B then 2250 else 0) ≤ 2250
        split <;> omega
      · show 0 < (if k < B then 2250 else 0)
        rw [if_pos hk]; omega
      · show (if k < B then 2250 else 0) = 0
        rw [if_neg (by omega)]
      · have := ws_sum_le (w := fun k => if k < B then 2250 else 0) (b := 2250) B (fun k hk => by show (if k < B then 2250 else 0) ≤ 2250; split <;> omega)
        omega
