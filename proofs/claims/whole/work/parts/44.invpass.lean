/-! THE INVARIANT IS KEPT: months, bottling -/
theorem Inv.passes {s : Nat → Int32} {t : Int32} (hi : Inv s) : Inv (sp_pass s t).2 := by
  unfold sp_pass
  split
  · exact hi
  · rename_i hne
    have hne := Classical.not_not.mp hne
    obtain ⟨T, hT1, hT60, rfl, hTc⟩ := int_p (n := 60) rfl (by omega) hne
    rw [hTc]
    split
    · exact hi
    · rename_i h9
      have hp := hi.pass
      have hA := hi.1
      obtain ⟨a0, a1, a2, a6, a7, a8⟩ := hA
      obtain ⟨_, b1, b2, b3, b4⟩ := hi
      show Inv (upd (upd (passW s T) 2 (nI (sv s 2 + T))) 3 (s 3 + nI (lostW s T)))
      generalize hs' : upd (upd (passW s T) 2 (nI (sv s 2 + T))) 3 (s 3 + nI (lostW s T)) = s'
      have h3 : ∀ j, j ≠ 3 → s' j = upd (passW s T) 2 (nI (sv s 2 + T)) j := fun j hj => by rw [← hs']; exact if_neg hj
      have hat : ∀ j, ¬ (9 ≤ j ∧ j < 129 ∧ 8 ≤ (j - 9) % 20) → j ≠ 2 → j ≠ 3 → s' j = s j := fun j q1 q2 q3 => by
        rw [h3 j q3]
        unfold upd
        rw [if_neg q2]
        exact passL_out q1
      have e2 : s' 2 = nI (sv s 2 + T) := by rw [h3 2 (by omega)]; exact if_pos rfl
      have v2 := sv_of e2 (by omega)
      refine ⟨⟨?_, ?_, ⟨by rw [v2]; exact e2, by omega⟩, ?_, ?_, ?_⟩, fun l hl => ?_, fun l hl hge => ?_, fun b hb hge => ?_, ?_⟩
      · rw [sv_congr (hat 0 (by omega) (by omega) (by omega)), hat 0 (by omega) (by omega) (by omega)]; exact a0
      · rw [sv_congr (hat 1 (by omega) (by omega) (by omega)), hat 1 (by omega) (by omega) (by omega)]; exact a1
      · rw [sv_congr (hat 6 (by omega) (by omega) (by omega)), hat 6 (by omega) (by omega) (by omega)]; exact a6
      · rw [sv_congr (hat 7 (by omega) (by omega) (by omega)), hat 7 (by omega) (by omega) (by omega)]; exact a7
      · rw [sv_congr (hat 8 (by omega) (by omega) (by omega)), hat 8 (by omega) (by omega) (by omega)]; exact a8
      · rcases Nat.lt_or_ge l (sv s 0) with hln | hln
        · obtain ⟨n, r, sc, t, cl, sh, bt, dl, w, H, P, G, ⟨i0, i1, i2, i3, i4, i5, i6, i7⟩, iw, iB, iH, hI, hF⟩ := lot_get (b1 l hl)
          obtain ⟨⟨q0, q1, q2, q3, q4, q5, q6, q7⟩, qw, qb⟩ := hI
          obtain ⟨f0, f1, f2, f3, f4, f5⟩ := hF
          have hn := f0.1
          have hm := ws_sum_mono (v := fun k => wb_it r T (w k)) (w := w) n (fun k _ => wb_it_le T (w k))
          refine lot_mk (n := n) (r := r) (sc := sc) (t := t) (cl := cl) (sh := sh) (bt := bt) (dl := dl) (w := fun k => wb_it r T (w k)) (H := H) (P := P) (G := G) ⟨⟨(hat _ (by omega) (by omega) (by omega)).trans q0, (hat _ (by omega) (by omega) (by omega)).trans q1, (hat _ (by omega) (by omega) (by omega)).trans q2, (hat _ (by omega) (by omega) (by omega)).trans q3, (hat _ (by omega) (by omega) (by omega)).trans q4, (hat _ (by omega) (by omega) (by omega)).trans q5, (hat _ (by omega) (by omega) (by omega)).trans q6, (hat _ (by omega) (by omega) (by omega)).trans q7⟩, fun k hk => ?_, fun b hb => ⟨(hat _ (by omega) (by omega) (by omega)).trans (qb b hb).1, (hat _ (by omega) (by omega) (by omega)).trans (qb b hb).2.1, (hat _ (by omega) (by omega) (by omega)).trans (qb b hb).2.2⟩⟩ ⟨⟨hn, f0.2.1, fun k => Nat.le_trans (wb_it_le _ _) (f0.2.2.1 k), fun k hk => wb_it_pos f0.2.1 _ _ (f0.2.2.2.1 k hk), fun k hk => ?_⟩, ⟨f1.1, by omega⟩, f2, f3, f4, f5⟩
          · rw [h3 _ (by omega), passW_w hp hln (by omega), i1, iw]
          · show wb_it r T (w k) = 0
            rw [f0.2.2.2.2 k hk, wb_it_z]
        · refine lot_congr (b1 l hl) (fun f hf => ?_) (fun b hb f hf => hat _ (by omega) (by omega) (by omega))
          rw [h3 _ (by omega)]
          unfold upd
          rw [if_neg (by omega)]
          exact passL_hi (l0 := sv s 0) (by omega)
      · rw [sv_congr (hat 0 (by omega) (by omega) (by omega))] at hge
        obtain ⟨c1, c2⟩ := b2 l hl hge
        exact ⟨fun f hf => by rw [sv_congr (hat _ (by omega) (by omega) (by omega))]; exact c1 f hf, fun b hb f hf => by rw [sv_congr (hat _ (by omega) (by omega) (by omega))]; exact c2 b hb f hf⟩
      · rw [sv_congr (hat 1 (by omega) (by omega) (by omega))] at hge
        obtain ⟨c1, c2⟩ := b3 b hb hge
        exact ⟨by rw [hat _ (by omega) (by omega) (by omega)]; exact c1, fun l hl f hf => by rw [sv_congr (hat _ (by omega) (by omega) (by omega))]; exact c2 l hl f hf⟩
      · rw [hat 4 (by omega) (by omega) (by omega), b4]
        exact congrArg nI (ws_sum_congr 6 (fun l hl => sv_congr (hat _ (by omega) (by omega) (by omega)))).symm
theorem sp_cut1_z {s : Nat → Int32} {l b c al : Nat} (h : w_cut (sv s (136 + 18 * b + 3 * l)) c al = 0) : sp_cut1 s l b c al = s := if_pos h
theorem Inv.cut1 {s : Nat → Int32} {L B c al : Nat} (hi : Inv s) (hL : L < sv s 0) (hB : B < sv s 1) : Inv (sp_cut1 s L B c al) := by
  have hL6 : L < 6 := by have := hi.1.1.2; omega
  have hB6 : B < 6 := by have := hi.1.2.1.2; omega
  rcases Nat.eq_zero_or_pos (w_cut (sv s (136 + 18 * B + 3 * L)) c al) with h0 | h0
  · rw [sp_cut1_z h0]; exact hi
  · refine hi.less hL hB h0 w_cut_le (fun j h1 h2 h3 => ?_) (fun b hb hge => sp_cut1_at (by omega) (by omega) (by omega) (by omega) (by omega) (by omega)) (sp_cut1_6 hB6 hL6 hi.1.2.2.2.1)
    unfold sp_cut1
    rw [if_neg (by omega), sp_enter_at h1 h2]
    unfold upd
    rw [if_neg (by omega), if_neg (by omega)]
theorem sp_cuts_0 {s : Nat → Int32} {L c al n j : Nat} (hL : L < 6) (hn : n ≤ 6) (hj : j < 129) (h6 : j ≠ 6) : sp_cuts s L c al n j = s j := sp_cuts_at hL n hn (Or.inl ⟨hj, h6⟩)
theorem Inv.cuts {s : Nat → Int32} {L c al : Nat} (hi : Inv s) (hL : L < sv s 0) : ∀ n, n ≤ sv s 1 → Inv (sp_cuts s L c al n)
  | 0, _ => hi
  | n + 1, hn => by
    have hL6 : L < 6 := by have := hi.1.1.2; omega
    have hn6 := hi.1.2.1.2
    show Inv (sp_cut1 (sp_cuts s L c al n) L n c al)
    exact (hi.cuts hL n (by omega)).cut1 (by rw [sv_congr (sp_cuts_0 hL6 (by omega) (by omega) (by omega))]; exact hL) (by rw [sv_congr (sp_cuts_0 hL6 (by omega) (by omega) (by omega))]; omega)
/-- what is held behind the cuts -/
theorem cuts_h {s : Nat → Int32} {L c al : Nat} (hi : Inv s) (hL : L < sv s 0) : ∀ n, n ≤ sv s 1 → ∀ b, b < n → sp_cuts s L c al n (136 + 18 * b + 3 * L) = nI (sv s (136 + 18 * b + 3 * L) - w_cut (sv s (136 + 18 * b + 3 * L)) c al)
  | 0, _, b, h => absurd h (Nat.not_lt_zero b)
  | n + 1, hn, b, hb => by
    have hL6 : L < 6 := by have := hi.1.1.2; omega
    have hn6 := hi.1.2.1.2
    have hh := inv_h hi hL6 (b := n) (by omega)
    show sp_cut1 (sp_cuts s L c al n) L n c al _ = _
    by_cases e : b = n
    · subst e
      have e1 : sp_cuts s L c al b (136 + 18 * b + 3 * L) = s (136 + 18 * b + 3 * L) := sp_cuts_at hL6 b (by omega) (by omega)
      have e2 := sv_congr e1
      rcases Nat.eq_zero_or_pos (w_cut (sv s (136 + 18 * b + 3 * L)) c al) with h0 | h0
      · rw [sp_cut1_z (by rw [e2]; exact h0), e1, h0, Nat.sub_zero]
        exact hh.1
      · unfold sp_cut1
        rw [e2, if_neg (by omega), sp_enter_at (by omega) (by omega)]
        unfold upd
        rw [if_neg (by omega), if_neg (by omega)]
        unfold sp_goes
        rw [e2]
        exact if_pos rfl
    · rw [sp_cut1_at (by omega) (by omega) (by omega) (by omega) (by omega) (by omega)]
      exact cuts_h hi hL n (by omega) b (by omega)
theorem Inv.bottle {s : Nat → Int32} {l : Int32} (hi : Inv s) : Inv (sp_bottle s l).2 := by
  unfold sp_bottle
  split
  · exact hi
  · rename_i hne
    have hne := Classical.not_not.mp hne
    obtain ⟨L, hLn, hL6, rfl, hLc⟩ := inv_l hi hne
    rw [hLc]
    split
    · exact hi
    · rename_i h0
      have h0 := Classical.not_not.mp h0
      have hW := inv_W hi hL6
      have hn6 := hi.1.2.1.2
      generalize hcs : ws_sum (sw s L) (sv s (9 + 20 * L)) / 90 = cs
      have hcs3 : cs ≤ 300 := by omega
      have hF0 := hi.2.1 L hL6
      have hbt : sv s (15 + 20 * L) = 0 := hF0.2.2.2.2.1.2.2 h0
      have hsd := hF0.2.2.2.2.2.1.1
      have hal := hF0.2.2.2.2.2.2.1.1
      generalize hu : sp_cuts s L cs (hsum s L) (sv s 1) = u
      have hI : Inv u := by rw [← hu]; exact hi.cuts hLn _ (Nat.le_refl _)
      have hat : ∀ j, j < 129 → j ≠ 6 → u j = s j := fun j h1 h2 => by rw [← hu]; exact sp_cuts_0 hL6 hn6 h1 h2
      have huh : ∀ b, b < 6 → sv u (136 + 18 * b + 3 * L) ≤ sv s (136 + 18 * b + 3 * L) - w_cut (sv s (136 + 18 * b + 3 * L)) cs (hsum s L) := fun b hb => by
        have hx := inv_h hi hL6 hb
        rcases Nat.lt_or_ge b (sv s 1) with h1 | h1
        · have e := cuts_h (c := cs) (al := hsum s L) hi hLn (sv s 1) (Nat.le_refl _) b h1
          rw [hu] at e
          exact Nat.le_of_eq (sv_of e (by omega))
        · have e : u (136 + 18 * b + 3 * L) = s (136 + 18 * b + 3 * L) := by rw [← hu]; exact sp_cuts_at hL6 _ hn6 (by omega)
          have z : sv s (136 + 18 * b + 3 * L) = 0 := (hi.2.2.2.1 b hb h1).2 L hL6 0 (by omega)
          rw [sv_congr e, z]
          exact Nat.zero_le _
      have hle : hsum u L ≤ cs := by
        rcases Nat.lt_or_ge cs (hsum s L) with h1 | h1
        · have g1 : hsum u L ≤ ws_sum (fun b => sv s (136 + 18 * b + 3 * L) * cs / hsum s L) 6 := ws_sum_mono 6 (fun b hb => by
            refine Nat.le_trans (huh b hb) ?_
            show _ ≤ sv s (136 + 18 * b + 3 * L) * cs / hsum s L
            have hq : sv s (136 + 18 * b + 3 * L) * cs / hsum s L ≤ sv s (136 + 18 * b + 3 * L) := w_share_le (Nat.le_of_lt h1)
            unfold w_cut
            rw [if_neg (by omega)]
            exact Nat.le_of_eq (Nat.sub_sub_self hq))
          have g2 := sum_div (H := fun b => sv s (136 + 18 * b + 3 * L)) (c := cs) (a := hsum s L) 6
          have g3 : hsum u L * hsum s L ≤ cs * hsum s L := Nat.le_trans (Nat.mul_le_mul_right _ g1) (Nat.le_trans g2 (Nat.le_of_eq (Nat.mul_comm _ _)))
          exact Nat.le_of_mul_le_mul_right g3 (by omega)
        · have g1 : hsum u L ≤ hsum s L := ws_sum_mono 6 (fun b hb => Nat.le_trans (huh b hb) (Nat.sub_le _ _))
          omega
      show Inv (upd (upd (upd (upd (upd u (9 + 20 * L) 0) (13 + 20 * L) 1) (14 + 20 * L) (nI cs)) (15 + 20 * L) (nI cs)) 5 (s 5 + nI (cutK s L cs (hsum s L) (sv s 1))))
      generalize hs' : upd (upd (upd (upd (upd u (9 + 20 * L) 0) (13 + 20 * L) 1) (14 + 20 * L) (nI cs)) (15 + 20 * L) (nI cs)) 5 (s 5 + nI (cutK s L cs (hsum s L) (sv s 1))) = s'
      have hv : ∀ j, j ≠ 5 → j ≠ 9 + 20 * L → j ≠ 13 + 20 * L → j ≠ 14 + 20 * L → j ≠ 15 + 20 * L → s' j = u j := fun j h1 h2 h3 h4 h5 => by
        rw [← hs']
        unfold upd
        rw [if_neg h1, if_neg h5, if_neg h4, if_neg h3, if_neg h2]
      obtain ⟨n, r, sc, t, cl, sh, bt, dl, w, H, P, G, ⟨i0, i1, i2, i3, i4, i5, i6, i7⟩, iw, iB, iH, hJ, hF⟩ := lot_get (hI.2.1 L hL6)
      obtain ⟨⟨q0, q1, q2, q3, q4, q5, q6, q7⟩, qw, qb⟩ := hJ
      obtain ⟨f0, f1, f2, f3, f4, f5⟩ := hF
      have hdl : dl = 0 := by rw [← i7, sv_congr (hat _ (by omega) (by omega))]; omega
      refine hI.one (L := L) (d := 0) (by rw [sv_congr (hat 0 (by omega) (by omega))]; exact hLn) (hv 0 (by omega) (by omega) (by omega) (by omega) (by omega)) (hv 1 (by omega) (by omega) (by omega) (by omega) (by omega)) (hv 2 (by omega) (by omega) (by omega) (by omega) (by omega)) (by rw [sv_congr (hv 6 (by omega) (by omega) (by omega) (by omega) (by omega)), hv 6 (by omega) (by omega) (by omega) (by omega) (by omega)]; exact hI.1.2.2.2.1) (hv 7 (by omega) (by omega) (by omega) (by omega) (by omega)) (hv 8 (by omega) (by omega) (by omega) (by omega) (by omega)) (fun l hl hne f hf => hv _ (by omega) (by omega) (by omega) (by omega) (by omega)) (fun l hl hne b hb f hf => hv _ (by omega) (by omega) (by omega) (by omega) (by omega)) ?_ (fun b hb hge => ⟨hv _ (by omega) (by omega) (by omega) (by omega) (by omega), fun f hf => hv _ (by omega) (by omega) (by omega) (by omega) (by omega)⟩) (by rw [sv_congr (hv (16 + 20 * L) (by omega) (by omega) (by omega) (by omega) (by omega))]; rfl) (by rw [hv 4 (by omega) (by omega) (by omega) (by omega) (by omega), nI_0]; exact (Int32.add_zero _).symm)
      refine lot_mk (n := 0) (r := r) (sc := sc) (t := t) (cl := 1) (sh := cs) (bt := cs) (dl := dl) (w := fun _ => 0) (H := H) (P := P) (G := G) ⟨⟨?_, ?_, ?_, ?_, ?_, ?_, ?_, ?_⟩, fun k hk => absurd hk (Nat.not_lt_zero k), fun b hb => ⟨(hv _ (by omega) (by omega) (by omega) (by omega) (by omega)).trans (qb b hb).1, (hv _ (by omega) (by omega) (by omega) (by omega) (by omega)).trans (qb b hb).2.1, (hv _ (by omega) (by omega) (by omega) (by omega) (by omega)).trans (qb b hb).2.2⟩⟩ ⟨⟨by omega, f0.2.1, fun _ => Nat.zero_le _, fun k hk => absurd hk (Nat.not_lt_zero k), fun _ _ => rfl⟩, ⟨f1.1, ?_⟩, ⟨by omega, fun _ => rfl, fun q => by omega⟩, ⟨by omega, hcs3, f3.2.2⟩, ⟨f4.1, fun _ => by rw [← iH]; exact hle⟩, f5⟩
      · rw [← hs']
        unfold upd
        rw [if_neg (by omega), if_neg (by omega), if_neg (by omega), if_neg (by omega), if_pos rfl]
        rfl
      · exact (hv _ (by omega) (by omega) (by omega) (by omega) (by omega)).trans q1
      · exact (hv _ (by omega) (by omega) (by omega) (by omega) (by omega)).trans q2
      · exact (hv _ (by omega) (by omega) (by omega) (by omega) (by omega)).trans q3
      · rw [← hs']
        unfold upd
        rw [if_neg (by omega), if_neg (by omega), if_neg (by omega), if_pos rfl]
        rfl
      · rw [← hs']
        unfold upd
        rw [if_neg (by omega), if_neg (by omega), if_pos rfl]
      · rw [← hs']
        unfold upd
        rw [if_neg (by omega), if_pos rfl]
      · exact (hv _ (by omega) (by omega) (by omega) (by omega) (by omega)).trans q7
      · show 10 * t + 0 ≤ 27000
        omega
