/-! THE CLASS: an Estate at e -/
def e_fr (e : Nat) (I J : mm_I) : Prop := ∀ c, c < e ∨ e + 43 ≤ c → J c = I c
theorem e_fr.rf {e : Nat} {I : mm_I} : e_fr e I I := fun _ _ => rfl
theorem e_fr.tr {e : Nat} {I J K : mm_I} (h : e_fr e I J) (g : e_fr e J K) : e_fr e I K := fun c hc => (g c hc).trans (h c hc)
theorem e_fr.w {e c k : Nat} {I J : mm_I} {z : Int32} (h : e_fr e I J) (hc : e ≤ c) (hc2 : c < e + 43) : e_fr e I (mm_wr J c k z) := fun d hd => (mm_wr_row (by omega)).trans (h d hd)

set_option maxRecDepth 100000 in
set_option maxHeartbeats 4000000 in
theorem c_lotAt {S : mm_S} {I : mm_I} {e : Nat} {s : Nat → Int32} {l : Int32} (hE : mm_est S e) (hs : est_at I e s) (hi : Inv s) : mm_cr mX2_lotAt [.ref e, .int l] S I (fun r J => r = (if 0 ≤ l ∧ l < s 0 then some (e + 7 + 6 * l.toNatClampNeg) else none) ∧ J = I) := by
  obtain ⟨ek, ep0, ep1, ep2, ep3, ek1, ek2, ebk, ebar, elots⟩ := hE
  have h4 := hs.1.1
  refine mm_cr.of okX2_lotAt rfl (Nat.le_of_ble_eq_true rfl) (lv := [(0, .ref e), (1, .int l)]) rfl ?_
  refine mm_iload_n dX2_lotAt_0 rfl rfl ?_
  refine mm_if_lt 30 dX2_lotAt_1 (by decide) (fun c_1 => ?_) (fun c_1 => ?_)
  · skip
    have n1 : ¬ (0 ≤ l ∧ l < s 0) := fun q => absurd c_1 (Int32.not_lt.mpr q.1)
    refine mm_null dX2_lotAt_30 ?_
    refine mm_aret (r := none) dX2_lotAt_31 rfl rfl ?_
    first
      | exact ⟨rfl, _, rfl, (if_neg n1).symm, rfl⟩
      | exact ⟨rfl, _, rfl, by rw [if_pos y1, hLc], rfl⟩
  · skip
    refine mm_iload_n dX2_lotAt_4 rfl rfl ?_
    refine mm_aload_n dX2_lotAt_5 rfl rfl ?_
    refine mm_getI dX2_lotAt_6 fl_X2_55 rfl (by assumption) ?_
    refine mm_tope (y := s 0) h4 ?_
    refine mm_icmp_ge 30 dX2_lotAt_9 (by decide) (fun c_9 => ?_) (fun c_9 => ?_)
    · skip
      have n1 : ¬ (0 ≤ l ∧ l < s 0) := fun q => absurd q.2 (Int32.not_lt.mpr c_9)
      refine mm_null dX2_lotAt_30 ?_
      refine mm_aret (r := none) dX2_lotAt_31 rfl rfl ?_
      first
        | exact ⟨rfl, _, rfl, (if_neg n1).symm, rfl⟩
        | exact ⟨rfl, _, rfl, by rw [if_pos y1, hLc], rfl⟩
    · skip
      have y1 : 0 ≤ l ∧ l < s 0 := ⟨Int32.not_lt.mp c_1, Int32.not_le.mp c_9⟩
      obtain ⟨L, hLn, hL6, rfl, hLc⟩ := inv_l hi y1
      have elot := (elots L hL6).1
      refine mm_iload_n dX2_lotAt_12 rfl rfl ?_
      refine mm_aload_n dX2_lotAt_13 rfl rfl ?_
      refine mm_getR dX2_lotAt_14 fl_X2_11 rfl (by assumption) (by assumption) ?_
      refine mm_alen (t := 1) dX2_lotAt_17 (by assumption) (by decide) 6 rfl ?_
      refine mm_icmp_ge 30 dX2_lotAt_18 (by decide) (fun c_18 => absurd c_18 (nI_ge (b := 6) (by omega) (by omega))) (fun c_18 => ?_)
      refine mm_aload_n dX2_lotAt_21 rfl rfl ?_
      refine mm_getR dX2_lotAt_22 fl_X2_11 rfl (by assumption) (by assumption) ?_
      refine mm_iload_n dX2_lotAt_25 rfl rfl ?_
      refine mm_aald (t := 0) (e + 7 + 6 * L) dX2_lotAt_26 (by assumption) (by decide) (vp_in_nI (n := L) (by omega) (by omega)) (by rw [nI_clamp (by omega)]; exact elot) ?_
      refine mm_goto 31 dX2_lotAt_27 (by decide) ?_
      refine mm_aret (r := some _) dX2_lotAt_31 rfl rfl ?_
      first
        | exact ⟨rfl, _, rfl, (if_neg n1).symm, rfl⟩
        | exact ⟨rfl, _, rfl, by rw [if_pos y1, hLc], rfl⟩
set_option maxRecDepth 100000 in
set_option maxHeartbeats 4000000 in
theorem c_hasBuyer {S : mm_S} {I : mm_I} {e : Nat} {s : Nat → Int32} {b : Int32} (hE : mm_est S e) (h5 : I e 5 = s 1) (hi : Inv s) : mm_ci mX2_hasBuyer [.ref e, .int b] S I (fun q J => q = (if 0 ≤ b ∧ b < s 1 then 1 else 0) ∧ J = I) := by
  obtain ⟨ek, ep0, ep1, ep2, ep3, ek1, ek2, ebk, ebar, elots⟩ := hE
  refine mm_ci.of okX2_hasBuyer rfl (Nat.le_of_ble_eq_true rfl) (lv := [(0, .ref e), (1, .int b)]) rfl ?_
  refine mm_iload_n dX2_hasBuyer_0 rfl rfl ?_
  refine mm_if_lt 25 dX2_hasBuyer_1 (by decide) (fun c_1 => ?_) (fun c_1 => ?_)
  · skip
    have n1 : ¬ (0 ≤ b ∧ b < s 1) := fun q => absurd c_1 (Int32.not_lt.mpr q.1)
    refine mm_iconst 0 dX2_hasBuyer_25 rfl ?_
    refine mm_zret dX2_hasBuyer_26 rfl (by first | exact Or.inl rfl | exact Or.inr rfl | assumption) ?_
    first
      | exact ⟨rfl, _, rfl, (if_neg n1).symm, rfl⟩
      | exact ⟨rfl, _, rfl, (if_pos y1).symm, rfl⟩
  · skip
    refine mm_iload_n dX2_hasBuyer_4 rfl rfl ?_
    refine mm_aload_n dX2_hasBuyer_5 rfl rfl ?_
    refine mm_getI dX2_hasBuyer_6 fl_X2_58 rfl (by assumption) ?_
    refine mm_tope (y := s 1) h5 ?_
    refine mm_icmp_ge 25 dX2_hasBuyer_9 (by decide) (fun c_9 => ?_) (fun c_9 => ?_)
    · skip
      have n1 : ¬ (0 ≤ b ∧ b < s 1) := fun q => absurd q.2 (Int32.not_lt.mpr c_9)
      refine mm_iconst 0 dX2_hasBuyer_25 rfl ?_
      refine mm_zret dX2_hasBuyer_26 rfl (by first | exact Or.inl rfl | exact Or.inr rfl | assumption) ?_
      first
        | exact ⟨rfl, _, rfl, (if_neg n1).symm, rfl⟩
        | exact ⟨rfl, _, rfl, (if_pos y1).symm, rfl⟩
    · skip
      have y1 : 0 ≤ b ∧ b < s 1 := ⟨Int32.not_lt.mp c_1, Int32.not_le.mp c_9⟩
      obtain ⟨B, hBn, hB6, rfl, hBc⟩ := inv_b hi y1
      refine mm_iload_n dX2_hasBuyer_12 rfl rfl ?_
      refine mm_aload_n dX2_hasBuyer_13 rfl rfl ?_
      refine mm_getR dX2_hasBuyer_14 fl_X2_17 rfl (by assumption) (by assumption) ?_
      refine mm_alen (t := 0) dX2_hasBuyer_17 (by assumption) (by decide) 6 rfl ?_
      refine mm_icmp_ge 25 dX2_hasBuyer_18 (by decide) (fun c_18 => absurd c_18 (nI_ge (b := 6) (by omega) (by omega))) (fun c_18 => ?_)
      refine mm_iconst 1 dX2_hasBuyer_21 rfl ?_
      refine mm_goto 26 dX2_hasBuyer_22 (by decide) ?_
      refine mm_zret dX2_hasBuyer_26 rfl (by first | exact Or.inl rfl | exact Or.inr rfl | assumption) ?_
      first
        | exact ⟨rfl, _, rfl, (if_neg n1).symm, rfl⟩
        | exact ⟨rfl, _, rfl, (if_pos y1).symm, rfl⟩
