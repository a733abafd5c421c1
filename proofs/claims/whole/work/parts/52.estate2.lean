/-! THE CLASS: an Estate's numbers change -/
theorem lot_at_I {I J : mm_I} {a l : Nat} {s : Nat → Int32} (h : ∀ c, a ≤ c → c < a + 6 → J c = I c) (g : lot_at I a s l) : lot_at J a s l := by
  obtain ⟨⟨w1, w2, w3⟩, g2, g3, g4, g5, g6⟩ := g
  have h0 := h a (by omega) (by omega)
  have h1 := h (a + 1) (by omega) (by omega)
  have h2 := h (a + 1 + 1) (by omega) (by omega)
  have h3 := h (a + 3) (by omega) (by omega)
  have h4 := h (a + 4) (by omega) (by omega)
  have h5 := h (a + 5) (by omega) (by omega)
  unfold lot_at wv_at
  rw [h0, h1, h2, h3, h4, h5]
  exact ⟨⟨w1, w2, w3⟩, g2, g3, g4, g5, g6⟩
theorem lot_at_congr {I : mm_I} {a l : Nat} {s s' : Nat → Int32} (hn : sv s (9 + 20 * l) ≤ 12) (h1 : ∀ f, f < 20 → s' (9 + f + 20 * l) = s (9 + f + 20 * l)) (h2 : ∀ b, b < 6 → ∀ f, f < 3 → s' (136 + 18 * b + 3 * l + f) = s (136 + 18 * b + 3 * l + f)) (g : lot_at I a s l) : lot_at I a s' l := by
  obtain ⟨g1, g2, g3, g4, g5, g6⟩ := g
  have e0 : sv s' (9 + 20 * l) = sv s (9 + 20 * l) := sv_congr (h1 0 (by omega))
  have e1 : sv s' (10 + 20 * l) = sv s (10 + 20 * l) := sv_congr (h1 1 (by omega))
  have ew : sw s' l = sw s l := by
    funext k
    unfold sw
    rw [e0]
    by_cases hk : k < sv s (9 + 20 * l)
    · rw [if_pos hk, if_pos hk]
      have := h1 (8 + k) (by omega)
      rw [show 9 + (8 + k) + 20 * l = 17 + 20 * l + k by omega] at this
      exact sv_congr this
    · rw [if_neg hk, if_neg hk]
  refine ⟨by rw [e0, e1, ew]; exact g1, fun b hb => ?_, g3.trans (h1 4 (by omega)).symm, g4.trans (h1 6 (by omega)).symm, g5.trans (h1 2 (by omega)).symm, g6.trans (h1 3 (by omega)).symm⟩
  have q := g2 b hb
  have q1 := h2 b hb 1 (by omega)
  have q2 := h2 b hb 2 (by omega)
  rw [show 136 + 18 * b + 3 * l + 1 = 137 + 18 * b + 3 * l by omega] at q1
  rw [show 136 + 18 * b + 3 * l + 2 = 138 + 18 * b + 3 * l by omega] at q2
  exact ⟨q.1.trans (h2 b hb 0 (by omega)).symm, q.2.1.trans q1.symm, q.2.2.trans q2.symm⟩
theorem inv_n {s : Nat → Int32} {l : Nat} (hi : Inv s) (hl : l < 6) : sv s (9 + 20 * l) ≤ 12 := (hi.2.1 l hl).2.1.1
/-- an own number of the estate has changed -/
theorem est_int {I : mm_I} {e k j : Nat} {s : Nat → Int32} {z : Int32} (hi : Inv s) (hs : est_at I e s) (hk : (k = 4 ∧ j = 0) ∨ (k = 5 ∧ j = 1) ∨ (k = 6 ∧ j = 135) ∨ (k = 7 ∧ j = 7) ∨ (k = 8 ∧ j = 8) ∨ (k = 9 ∧ j = 2) ∨ (k = 10 ∧ j = 3) ∨ (k = 11 ∧ j = 5)) : est_at (mm_wr I e k z) e (upd s j z) := by
  obtain ⟨⟨a4, a5, a6, a7, a8, a9, a10, a11⟩, b, c, d, f⟩ := hs
  have hI : ∀ q i, (q = k ∧ i = j) ∨ (q ≠ k ∧ i ≠ j) → I e q = s i → mm_wr I e k z e q = upd s j z i := fun q i h h3 => by
    rcases h with ⟨rfl, rfl⟩ | ⟨h1, h2⟩
    · rw [mm_wr_s]; exact (if_pos rfl).symm
    · rw [mm_wr_k h1]; exact h3.trans (if_neg h2).symm
  have hr : ∀ q, q ≠ e → mm_wr I e k z q = I q := fun q hq => mm_wr_row hq
  have hu : ∀ i, i ≠ j → upd s j z i = s i := fun i hi => if_neg hi
  refine ⟨⟨hI 4 0 (by omega) a4, hI 5 1 (by omega) a5, hI 6 135 (by omega) a6, hI 7 7 (by omega) a7, hI 8 8 (by omega) a8, hI 9 2 (by omega) a9, hI 10 3 (by omega) a10, hI 11 5 (by omega) a11⟩, fun b' hb => ?_, ?_, fun k' hk' => ?_, fun l hl => ?_⟩
  · rw [hr _ (by omega), hu _ (by omega)]; exact b b' hb
  · rw [hr _ (by omega), hu _ (by omega)]; exact c
  · rw [hr _ (by omega), hu _ (by omega)]; exact d k' hk'
  · exact lot_at_congr (inv_n hi hl) (fun f hf => hu _ (by omega)) (fun b hb f hf => hu _ (by omega)) (lot_at_I (fun c h1 h2 => hr c (by omega)) (f l hl))
def e_Q (e : Nat) (I : mm_I) (x : sp_T) : Int32 → mm_I → Prop := fun q J => q = x.1 ∧ est_at J e x.2 ∧ e_fr e I J
theorem e_Q_err {e : Nat} {I : mm_I} {x : sp_T} {s : Nat → Int32} {z : Int32} (h : x = (z, s)) (hs : est_at I e s) : e_Q e I x z I := by
  subst h
  exact ⟨rfl, hs, e_fr.rf⟩

set_option maxRecDepth 100000 in
set_option maxHeartbeats 4000000 in
theorem c_addBuyer {S : mm_S} {I : mm_I} {e : Nat} {s : Nat → Int32} (hE : mm_est S e) (hs : est_at I e s) (hi : Inv s) : mm_ci mX2_addBuyer [.ref e] S I (e_Q e I (sp_buyer s)) := by
  obtain ⟨ek, ep0, ep1, ep2, ep3, ek1, ek2, ebk, ebar, elots⟩ := hE
  have h5 := hs.1.2.1
  have h1 := hi.1.2.1
  have h5n : I e 5 = nI (sv s 1) := h5.trans h1.1
  refine mm_ci.of okX2_addBuyer rfl (Nat.le_of_ble_eq_true rfl) (lv := [(0, .ref e)]) rfl ?_
  refine mm_aload_n dX2_addBuyer_0 rfl rfl ?_
  refine mm_getI dX2_addBuyer_1 fl_X2_58 rfl (by assumption) ?_
  refine mm_tope (y := nI (sv s 1)) h5n ?_
  refine mm_bipush 6 dX2_addBuyer_4 rfl ?_
  refine mm_icmp_lt 12 dX2_addBuyer_6 (by decide) (fun c_6 => ?_) (fun c_6 => ?_)
  · skip
    have hlt : sv s 1 < 6 := (nI_ltI (b := 6) (by omega) (by omega)).mp c_6
    have hne : ¬ s 1 = 6 := fun q => by
      rw [h1.1] at q
      have := (nI_eq (a := sv s 1) (b := 6) (by omega) (by omega)).mp q
      omega
    refine mm_aload_n dX2_addBuyer_12 rfl rfl ?_
    refine mm_dup dX2_addBuyer_13 rfl ?_
    refine mm_getI dX2_addBuyer_14 fl_X2_58 rfl (by assumption) ?_
    refine mm_tope (y := nI (sv s 1)) h5n ?_
    refine mm_iconst 1 dX2_addBuyer_17 rfl ?_
    refine mm_iadd dX2_addBuyer_18 ?_
    refine mm_tope (y := nI (sv s 1 + 1)) (nI_1 _) ?_
    refine mm_putI dX2_addBuyer_19 fl_X2_58 rfl rfl (by assumption) ?_
    refine mm_aload_n dX2_addBuyer_22 rfl rfl ?_
    refine mm_getI dX2_addBuyer_23 fl_X2_58 rfl (by assumption) ?_
    refine mm_tope (y := nI (sv s 1 + 1)) mm_wr_s ?_
    refine mm_iconst 1 dX2_addBuyer_26 rfl ?_
    refine mm_isub dX2_addBuyer_27 ?_
    refine mm_tope (y := nI (sv s 1)) (pk_sub (b := 1) (by omega)) ?_
    refine mm_iret dX2_addBuyer_28 rfl ?_
    refine ⟨rfl, _, rfl, ?_⟩
    unfold e_Q sp_buyer
    rw [if_neg hne]
    exact ⟨h1.1.symm, est_int hi hs (by omega), e_fr.rf.w (Nat.le_refl _) (by omega)⟩
  · skip
    have hge : 6 ≤ sv s 1 := Nat.not_lt.mp fun q => c_6 (nI_lt (b := 6) q (by omega))
    have he : s 1 = 6 := by rw [h1.1, show sv s 1 = 6 by omega]; rfl
    refine mm_ldc dX2_addBuyer_9 ct_X2_82 ?_
    refine mm_iret dX2_addBuyer_11 rfl ?_
    exact ⟨rfl, _, rfl, e_Q_err (if_pos he) hs⟩
