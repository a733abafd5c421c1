/-! PLAYING: nothing beyond the state's places, nothing of the numbers read before -/
theorem rdF_v {c : Nat → Nat} : ∀ (u k q : Nat) (b : Bool) (v v' : Nat → Int32), (∀ j, j < k → v j = v' j) → (rdF c u k q b v).1 = (rdF c u k q b v').1 ∧ (rdF c u k q b v).2.1 = (rdF c u k q b v').2.1 ∧ ((rdF c u k q b v).1 = true → ∀ j, j < k + u → (rdF c u k q b v).2.2 j = (rdF c u k q b v').2.2 j)
  | 0, k, q, b, v, v', h => by
    unfold rdF
    by_cases e : b = true ∧ c q = 59
    · rw [if_pos e, if_pos e]
      exact ⟨rfl, rfl, fun _ j hj => h j hj⟩
    · rw [if_neg e, if_neg e]
      exact ⟨rfl, rfl, fun _ j hj => h j hj⟩
  | u + 1, k, q, b, v, v', h => by
    by_cases e : b = true ∧ c q = 44
    · have e1 : ∀ v, rdF c (u + 1) k q b v = rdF c u (k + 1) (rdNum c 3 (q + 1) 0).1 (decide (q + 1 < (rdNum c 3 (q + 1) 0).1)) (upd v k (nI (rdNum c 3 (q + 1) 0).2)) := fun v => if_pos e
      rw [e1 v, e1 v', show k + (u + 1) = k + 1 + u by omega]
      refine rdF_v u (k + 1) _ _ _ _ (fun j hj => ?_)
      unfold upd
      by_cases e2 : j = k
      · rw [if_pos e2, if_pos e2]
      · rw [if_neg e2, if_neg e2]; exact h j (by omega)
    · have e1 : ∀ v, rdF c (u + 1) k q b v = (false, q, v) := fun v => if_neg e
      rw [e1 v, e1 v']
      exact ⟨rfl, rfl, fun q => by cases q⟩
theorem rdO_v {c : Nat → Nat} {p : Nat} (v v' : Nat → Int32) : (rdO c p v).1 = (rdO c p v').1 ∧ (rdO c p v).2.1 = (rdO c p v').2.1 ∧ ((rdO c p v).1 = true → ∀ j, j < nOf (c p) → (rdO c p v).2.2 j = (rdO c p v').2.2 j) := by
  by_cases e : nOf (c p) = 0
  · have e1 : ∀ v, rdO c p v = (false, p, v) := fun v => if_pos e
    rw [e1 v, e1 v']
    exact ⟨rfl, rfl, fun q => by cases q⟩
  · have e1 : ∀ v, rdO c p v = rdF c (nOf (c p) - 1) 1 (rdNum c 3 (p + 1) 0).1 (decide (p + 1 < (rdNum c 3 (p + 1) 0).1)) (upd v 0 (nI (rdNum c 3 (p + 1) 0).2)) := fun v => if_neg e
    have h := rdF_v (c := c) (nOf (c p) - 1) 1 (rdNum c 3 (p + 1) 0).1 (decide (p + 1 < (rdNum c 3 (p + 1) 0).1)) (upd v 0 (nI (rdNum c 3 (p + 1) 0).2)) (upd v' 0 (nI (rdNum c 3 (p + 1) 0).2)) (fun j hj => by
      have : j = 0 := by omega
      subst this
      rfl)
    rw [show 1 + (nOf (c p) - 1) = nOf (c p) by omega] at h
    rw [e1 v, e1 v']
    exact h
theorem sp_call_v {s : Nat → Int32} {k : Nat} {v v' : Nat → Int32} (hk : nOf k ≠ 0) (h : ∀ j, j < nOf k → v j = v' j) : sp_call s k v = sp_call s k v' := by
  rcases nOf_cases hk with e | e | e | e | e
  · subst e
    show sp_lot s (v 0) (v 1) = sp_lot s (v' 0) (v' 1)
    rw [h 0 (by decide), h 1 (by decide)]
  · subst e
    show sp_sell s (v 0) (v 1) (v 2) (v 3) = sp_sell s (v' 0) (v' 1) (v' 2) (v' 3)
    rw [h 0 (by decide), h 1 (by decide), h 2 (by decide), h 3 (by decide)]
  · subst e
    show sp_taste s (v 0) (v 1) = sp_taste s (v' 0) (v' 1)
    rw [h 0 (by decide), h 1 (by decide)]
  · subst e
    show sp_pass s (v 0) = sp_pass s (v' 0)
    rw [h 0 (by decide)]
  · subst e
    show sp_bottle s (v 0) = sp_bottle s (v' 0)
    rw [h 0 (by decide)]
theorem pl_v {c : Nat → Nat} {ty : Nat} : ∀ (f p o : Nat) (s v v' : Nat → Int32), pl c ty f p o s v = pl c ty f p o s v'
  | 0, _, _, _, _, _ => rfl
  | f + 1, p, o, s, v, v' => by
    obtain ⟨h1, h2, h3⟩ := rdO_v (c := c) (p := p) v v'
    by_cases e : p < ty
    · by_cases e1 : (rdO c p v).1 = true
      · have e1' : (rdO c p v').1 = true := by rw [← h1]; exact e1
        have hc := sp_call_v (s := s) (rdO_nOf e1) (h3 e1)
        by_cases e2 : 0 ≤ (sp_call s (c p) (rdO c p v).2.2).1
        · have e2' : 0 ≤ (sp_call s (c p) (rdO c p v').2.2).1 := by rw [← hc]; exact e2
          have a1 : pl c ty (f + 1) p o s v = pl c ty f (rdO c p v).2.1 (o + 1) (sp_call s (c p) (rdO c p v).2.2).2 (rdO c p v).2.2 := (if_pos e).trans ((if_pos e1).trans (if_pos e2))
          have a2 : pl c ty (f + 1) p o s v' = pl c ty f (rdO c p v').2.1 (o + 1) (sp_call s (c p) (rdO c p v').2.2).2 (rdO c p v').2.2 := (if_pos e).trans ((if_pos e1').trans (if_pos e2'))
          rw [a1, a2, h2, hc]
          exact pl_v f _ _ _ _ _
        · have e2' : ¬ 0 ≤ (sp_call s (c p) (rdO c p v').2.2).1 := by rw [← hc]; exact e2
          have a1 : pl c ty (f + 1) p o s v = (false, (sp_call s (c p) (rdO c p v).2.2).2, o + 1, p, 2, (sp_call s (c p) (rdO c p v).2.2).1) := (if_pos e).trans ((if_pos e1).trans (if_neg e2))
          have a2 : pl c ty (f + 1) p o s v' = (false, (sp_call s (c p) (rdO c p v').2.2).2, o + 1, p, 2, (sp_call s (c p) (rdO c p v').2.2).1) := (if_pos e).trans ((if_pos e1').trans (if_neg e2'))
          rw [a1, a2, hc]
      · have e1' : ¬ (rdO c p v').1 = true := by rw [← h1]; exact e1
        have a1 : pl c ty (f + 1) p o s v = (false, s, o + 1, p, 1, nI ((rdO c p v).2.1 - p)) := (if_pos e).trans (if_neg e1)
        have a2 : pl c ty (f + 1) p o s v' = (false, s, o + 1, p, 1, nI ((rdO c p v').2.1 - p)) := (if_pos e).trans (if_neg e1')
        rw [a1, a2, h2]
    · rw [pl_end e, pl_end e]
theorem sp_enter_hi {s : Nat → Int32} {k l b c p f : Int32} {j : Nat} (h : 316 ≤ j) : sp_enter s k l b c p f j = s j := by
  unfold sp_enter
  rw [if_neg (by omega), if_neg (by omega)]
theorem hi_lot {s : Nat → Int32} {b r : Int32} {j : Nat} (hi : Inv s) (h : 316 ≤ j) : (sp_lot s b r).2 j = s j := by
  unfold sp_lot
  split
  · rfl
  · rename_i hne
    split
    · rfl
    · obtain ⟨B, hB1, hB12, rfl, hBc⟩ := int_p (n := 12) rfl (by omega) (Classical.not_not.mp hne).1
      have := hi.1.1.2
      rw [hBc]
      show (if j = 0 then _ else if 17 + 20 * sv s 0 ≤ j ∧ j < 17 + 20 * sv s 0 + B then _ else if j = 10 + 20 * sv s 0 then _ else if j = 9 + 20 * sv s 0 then _ else s j) = s j
      rw [if_neg (by omega), if_neg (by omega), if_neg (by omega), if_neg (by omega)]
theorem hi_sell {s : Nat → Int32} {l b c p : Int32} {j : Nat} (hi : Inv s) (h : 316 ≤ j) : (sp_sell s l b c p).2 j = s j := by
  unfold sp_sell
  split
  · rfl
  · rename_i hne
    have hne := Classical.not_not.mp hne
    split
    · rfl
    · obtain ⟨L, hLn, hL6, rfl, hLc⟩ := inv_l hi hne.1
      obtain ⟨B, hBn, hB6, rfl, hBc⟩ := inv_b hi hne.2.1
      rw [hLc, hBc]
      exact (sp_enter_hi h).trans (sp_comes_at (by omega) (by omega) (by omega) (by omega))
theorem hi_taste {s : Nat → Int32} {l c : Int32} {j : Nat} (hi : Inv s) (h : 316 ≤ j) : (sp_taste s l c).2 j = s j := by
  unfold sp_taste
  split
  · rfl
  · rename_i hne
    have hne := Classical.not_not.mp hne
    obtain ⟨L, hLn, hL6, rfl, hLc⟩ := inv_l hi hne.1
    rw [hLc]
    split
    · rfl
    · rename_i b hb
      have hn : w_sipN (sv s (9 + 20 * L)) (sw s L) b ≤ 12 := by have := (hi.2.1 L hL6).2.1.1; unfold w_sipN; split <;> omega
      show upd (upd _ _ _) _ _ j = s j
      unfold upd
      rw [if_neg (by omega), if_neg (by omega), w_lay_at (by omega) (by omega)]
theorem hi_pass {s : Nat → Int32} {t : Int32} {j : Nat} (h : 316 ≤ j) : (sp_pass s t).2 j = s j := by
  unfold sp_pass
  split
  · rfl
  · split
    · rfl
    · show upd (upd _ _ _) _ _ j = s j
      unfold upd
      rw [if_neg (by omega), if_neg (by omega)]
      exact if_neg (fun q => by omega)
theorem sp_cut1_hi {s : Nat → Int32} {l b c al j : Nat} (hl : l < 6) (hb : b < 6) (hj : 316 ≤ j) : sp_cut1 s l b c al j = s j := by
  unfold sp_cut1
  split
  · rfl
  · rw [sp_enter_hi hj]
    unfold upd
    rw [if_neg (by omega), if_neg (by omega), sp_goes_at (by omega) (by omega)]
theorem sp_cuts_hi {s : Nat → Int32} {l c al j : Nat} (hl : l < 6) (hj : 316 ≤ j) : ∀ n, n ≤ 6 → sp_cuts s l c al n j = s j
  | 0, _ => rfl
  | n + 1, hn => (sp_cut1_hi hl (by omega) hj).trans (sp_cuts_hi hl hj n (by omega))
theorem hi_bottle {s : Nat → Int32} {l : Int32} {j : Nat} (hi : Inv s) (h : 316 ≤ j) : (sp_bottle s l).2 j = s j := by
  unfold sp_bottle
  split
  · rfl
  · rename_i hne
    have hne := Classical.not_not.mp hne
    split
    · rfl
    · obtain ⟨L, hLn, hL6, rfl, hLc⟩ := inv_l hi hne
      rw [hLc]
      show upd (upd (upd (upd (upd _ _ _) _ _) _ _) _ _) _ _ j = s j
      unfold upd
      rw [if_neg (by omega), if_neg (by omega), if_neg (by omega), if_neg (by omega), if_neg (by omega)]
      exact sp_cuts_hi hL6 h _ hi.1.2.1.2
theorem hi_call {s : Nat → Int32} {k : Nat} {v : Nat → Int32} {j : Nat} (hi : Inv s) (h : 316 ≤ j) : (sp_call s k v).2 j = s j := by
  unfold sp_call
  split
  · exact hi_lot hi h
  · split
    · exact hi_sell hi h
    · split
      · exact hi_taste hi h
      · split
        · exact hi_pass h
        · exact hi_bottle hi h
theorem pl_hi {c : Nat → Nat} {ty j : Nat} (h : 316 ≤ j) : ∀ (f p o : Nat) (s v : Nat → Int32), Inv s → Inv (pl c ty f p o s v).2.1 ∧ (pl c ty f p o s v).2.1 j = s j
  | 0, _, _, _, _, hi => ⟨hi, rfl⟩
  | f + 1, p, o, s, v, hi => by
    unfold pl
    split
    · split
      · split
        · have h1 := pl_hi (c := c) (ty := ty) h f (rdO c p v).2.1 (o + 1) (sp_call s (c p) (rdO c p v).2.2).2 (rdO c p v).2.2 hi.call
          exact ⟨h1.1, h1.2.trans (hi_call hi h)⟩
        · exact ⟨hi.call, hi_call hi h⟩
      · exact ⟨hi, rfl⟩
    · exact ⟨hi, rfl⟩

