/-! THE REFERENCE: texts and orders -/
def tx_at (I : mm_I) (m ty : Nat) (x : Nat → Nat) : Prop := I m 6 = nI ty ∧ ty ≤ 60 ∧ ∀ p, p < ty → I (m + 4) p = nI (x p) ∧ 32 ≤ x p ∧ x p ≤ 126
def cc (ty : Nat) (x : Nat → Nat) : Nat → Nat := fun p => if p < ty then x p else 0
def r_ft (m : Nat) (I J : mm_I) : Prop := (∀ c, c ≠ m → c ≠ m + 6 → J c = I c) ∧ ∀ j, j ≠ 9 → j ≠ 14 → J m j = I m j
theorem r_ft.rf {m : Nat} {I : mm_I} : r_ft m I I := ⟨fun _ _ _ => rfl, fun _ _ _ => rfl⟩
theorem r_ft.tr {m : Nat} {I J K : mm_I} (h : r_ft m I J) (g : r_ft m J K) : r_ft m I K := ⟨fun c h1 h2 => by rw [g.1 c h1 h2]; exact h.1 c h1 h2, fun j h1 h2 => by rw [g.2 j h1 h2]; exact h.2 j h1 h2⟩
theorem r_ft.tx {m ty : Nat} {x : Nat → Nat} {I J : mm_I} (h : r_ft m I J) (g : tx_at I m ty x) : tx_at J m ty x := ⟨by rw [h.2 6 (by decide) (by decide)]; exact g.1, g.2.1, fun p hp => by rw [h.1 (m + 4) (by omega) (by omega)]; exact g.2.2 p hp⟩
theorem r_ft.w9 {m : Nat} {I J : mm_I} {z : Int32} (h : r_ft m I J) : r_ft m I (mm_wr J m 9 z) := ⟨fun c h1 h2 => by rw [mm_wr_row h1]; exact h.1 c h1 h2, fun j h1 h2 => by rw [mm_wr_k h1]; exact h.2 j h1 h2⟩
theorem r_ft.w14 {m : Nat} {I J : mm_I} {z : Int32} (h : r_ft m I J) : r_ft m I (mm_wr J m 14 z) := ⟨fun c h1 h2 => by rw [mm_wr_row h1]; exact h.1 c h1 h2, fun j h1 h2 => by rw [mm_wr_k h2]; exact h.2 j h1 h2⟩
theorem r_ft.w6 {m k : Nat} {I J : mm_I} {z : Int32} (h : r_ft m I J) : r_ft m I (mm_wr J (m + 6) k z) := ⟨fun c h1 h2 => by rw [mm_wr_row h2]; exact h.1 c h1 h2, fun j h1 h2 => by rw [mm_wr_a (by omega)]; exact h.2 j h1 h2⟩
def nOf (k : Nat) : Nat := if k = 115 then 4 else if k = 108 ∨ k = 116 then 2 else if k = 109 ∨ k = 98 then 1 else 0
def rdNum (c : Nat → Nat) : Nat → Nat → Nat → Nat × Nat
  | 0, p, v => (p, v)
  | f + 1, p, v => if 48 ≤ c p ∧ c p ≤ 57 then rdNum c f (p + 1) (10 * v + (c p - 48)) else (p, v)
theorem rdNum_yes {c : Nat → Nat} {f p v : Nat} (h : 48 ≤ c p ∧ c p ≤ 57) : rdNum c (f + 1) p v = rdNum c f (p + 1) (10 * v + (c p - 48)) := if_pos h
theorem rdNum_no {c : Nat → Nat} {f p v : Nat} (h : ¬ (48 ≤ c p ∧ c p ≤ 57)) : rdNum c f p v = (p, v) := by
  cases f with
  | zero => rfl
  | succ f => exact if_neg h
def rdF (c : Nat → Nat) : Nat → Nat → Nat → Bool → (Nat → Int32) → Bool × Nat × (Nat → Int32)
  | 0, _, q, b, v => if b = true ∧ c q = 59 then (true, q + 1, v) else (false, q, v)
  | u + 1, k, q, b, v => if b = true ∧ c q = 44 then rdF c u (k + 1) (rdNum c 3 (q + 1) 0).1 (decide (q + 1 < (rdNum c 3 (q + 1) 0).1)) (upd v k (nI (rdNum c 3 (q + 1) 0).2)) else (false, q, v)
def rdO (c : Nat → Nat) (p : Nat) (v : Nat → Int32) : Bool × Nat × (Nat → Int32) :=
  if nOf (c p) = 0 then (false, p, v) else rdF c (nOf (c p) - 1) 1 (rdNum c 3 (p + 1) 0).1 (decide (p + 1 < (rdNum c 3 (p + 1) 0).1)) (upd v 0 (nI (rdNum c 3 (p + 1) 0).2))
theorem rdNum_le {c : Nat → Nat} {ty : Nat} (hc : ∀ p, ty ≤ p → c p = 0) : ∀ f p v, p ≤ (rdNum c f p v).1 ∧ ((rdNum c f p v).1 ≤ p ∨ (rdNum c f p v).1 ≤ ty)
  | 0, p, v => ⟨Nat.le_refl _, Or.inl (Nat.le_refl _)⟩
  | f + 1, p, v => by
    by_cases h : 48 ≤ c p ∧ c p ≤ 57
    · rw [rdNum_yes h]
      have h1 := rdNum_le hc f (p + 1) (10 * v + (c p - 48))
      have h2 : p < ty := by
        rcases Nat.lt_or_ge p ty with e | e
        · exact e
        · have := hc p e; omega
      omega
    · rw [rdNum_no h]
      exact ⟨Nat.le_refl _, Or.inl (Nat.le_refl _)⟩

set_option maxRecDepth 100000 in
set_option maxHeartbeats 4000000 in
theorem r_isAt {S : mm_S} {I : mm_I} {m ty p : Nat} {x : Nat → Nat} {lo hi : Int32} (hM : mm_ref S m) (hT : tx_at I m ty x) (h9 : I m 9 = nI p) (hp : p ≤ 60) : mm_ci mX8_isAt [.ref m, .int lo, .int hi] S I (fun q J => q = (if p < ty ∧ (lo ≤ nI (x p) ∧ nI (x p) ≤ hi) then 1 else 0) ∧ J = I) := by
  obtain ⟨hk, hp0, hp1, hp2, hp5, hp7, hp15, hk1, hk2, hk3, hk4, hk5, hk6⟩ := hM
  obtain ⟨t6, tty, txx⟩ := hT
  refine mm_ci.of okX8_isAt rfl (Nat.le_of_ble_eq_true rfl) (lv := [(0, .ref m), (1, .int lo), (2, .int hi)]) rfl ?_
  refine mm_aload_n dX8_isAt_0 rfl rfl ?_
  refine mm_getI dX8_isAt_1 fl_X8_151 rfl (by assumption) ?_
  refine mm_tope (y := nI p) h9 ?_
  refine mm_aload_n dX8_isAt_4 rfl rfl ?_
  refine mm_getI dX8_isAt_5 fl_X8_148 rfl (by assumption) ?_
  refine mm_tope (y := nI ty) t6 ?_
  refine mm_icmp_ge 32 dX8_isAt_8 (by decide) (fun c_8 => ?_) (fun c_8 => ?_)
  · skip
    have hge : ¬ p < ty := fun q => absurd c_8 (nI_ge q (by omega))
    refine mm_iconst 0 dX8_isAt_32 rfl ?_
    refine mm_zret dX8_isAt_33 rfl (by first | exact Or.inl rfl | exact Or.inr rfl | assumption) ?_
    first
      | exact ⟨rfl, _, rfl, (if_pos ⟨hlt, y1⟩).symm, rfl⟩
      | exact ⟨rfl, _, rfl, (if_neg (fun q => n1 q.2)).symm, rfl⟩
      | exact ⟨rfl, _, rfl, (if_neg (fun q => hge q.1)).symm, rfl⟩
  · skip
    have hlt : p < ty := Nat.not_le.mp fun q => c_8 (nI_le q (by omega))
    refine mm_aload_n dX8_isAt_11 rfl rfl ?_
    refine mm_getR dX8_isAt_12 fl_X8_19 rfl (by assumption) (by assumption) ?_
    refine mm_aload_n dX8_isAt_15 rfl rfl ?_
    refine mm_getI dX8_isAt_16 fl_X8_151 rfl (by assumption) ?_
    refine mm_tope (y := nI p) h9 ?_
    refine mm_iald dX8_isAt_19 (by assumption) (vp_in_nI (n := p) (by omega) (by omega)) ?_
    refine mm_tope (y := nI (x p)) (by rw [nI_clamp (by omega)]; exact (txx p hlt).1) ?_
    refine mm_iload_n dX8_isAt_20 rfl rfl ?_
    refine mm_iload_n dX8_isAt_21 rfl rfl ?_
    refine mm_Si (N := mX8_in) (as := [_, _, _]) dX8_isAt_22 lk_X8_72 okX8_in (by decide) rfl rfl (by decide) r_in (fun r1 J1 hq => ?_)
    obtain ⟨rfl, hJ⟩ := hq
    subst J1
    refine mm_if_eq 32 dX8_isAt_25 (by decide) (fun c_25 => ?_) (fun c_25 => ?_)
    · skip
      have n1 := if_no c_25
      refine mm_iconst 0 dX8_isAt_32 rfl ?_
      refine mm_zret dX8_isAt_33 rfl (by first | exact Or.inl rfl | exact Or.inr rfl | assumption) ?_
      first
        | exact ⟨rfl, _, rfl, (if_pos ⟨hlt, y1⟩).symm, rfl⟩
        | exact ⟨rfl, _, rfl, (if_neg (fun q => n1 q.2)).symm, rfl⟩
        | exact ⟨rfl, _, rfl, (if_neg (fun q => hge q.1)).symm, rfl⟩
    · skip
      have y1 := if_yes c_25
      refine mm_iconst 1 dX8_isAt_28 rfl ?_
      refine mm_goto 33 dX8_isAt_29 (by decide) ?_
      refine mm_zret dX8_isAt_33 rfl (by first | exact Or.inl rfl | exact Or.inr rfl | assumption) ?_
      first
        | exact ⟨rfl, _, rfl, (if_pos ⟨hlt, y1⟩).symm, rfl⟩
        | exact ⟨rfl, _, rfl, (if_neg (fun q => n1 q.2)).symm, rfl⟩
        | exact ⟨rfl, _, rfl, (if_neg (fun q => hge q.1)).symm, rfl⟩
theorem cc_is {ty p k : Nat} {x : Nat → Nat} (hk : 0 < k) : cc ty x p = k ↔ p < ty ∧ x p = k := by
  unfold cc
  by_cases h : p < ty
  · rw [if_pos h]; exact ⟨fun q => ⟨h, q⟩, fun q => q.2⟩
  · rw [if_neg h]; exact ⟨fun q => by omega, fun q => absurd q.1 h⟩
theorem cc_in {ty p a b : Nat} {x : Nat → Nat} (ha : 0 < a) : (a ≤ cc ty x p ∧ cc ty x p ≤ b) ↔ p < ty ∧ (a ≤ x p ∧ x p ≤ b) := by
  unfold cc
  by_cases h : p < ty
  · rw [if_pos h]; exact ⟨fun q => ⟨h, q⟩, fun q => q.2⟩
  · rw [if_neg h]; exact ⟨fun q => by omega, fun q => absurd q.1 h⟩
theorem at_in {S : mm_S} {I : mm_I} {m ty p a b : Nat} {x : Nat → Nat} (hM : mm_ref S m) (hT : tx_at I m ty x) (h9 : I m 9 = nI p) (hp : p ≤ 60) (ha : 0 < a) (hb : b < 1000) (ha2 : a < 1000) : mm_ci mX8_isAt [.ref m, .int (nI a), .int (nI b)] S I (fun q J => q = (if a ≤ cc ty x p ∧ cc ty x p ≤ b then 1 else 0) ∧ J = I) :=
  (r_isAt hM hT h9 hp).to (fun q J h => ⟨by
    rw [h.1]
    have hx : p < ty → x p ≤ 126 := fun hp => (hT.2.2 p hp).2.2
    by_cases e : a ≤ cc ty x p ∧ cc ty x p ≤ b
    · have e2 := (cc_in ha).mp e
      rw [if_pos e, if_pos ⟨e2.1, nI_le e2.2.1 (by have := hx e2.1; omega), nI_le e2.2.2 (by omega)⟩]
    · rw [if_neg e, if_neg (fun q => e ((cc_in ha).mpr ⟨q.1, (nI_leI (by omega) (by have := hx q.1; omega)).mp q.2.1, (nI_leI (by have := hx q.1; omega) (by omega)).mp q.2.2⟩))], h.2⟩)

set_option maxRecDepth 100000 in
set_option maxHeartbeats 4000000 in
theorem r_sign {S : mm_S} {I : mm_I} {m ty p k : Nat} {x : Nat → Nat} (hM : mm_ref S m) (hT : tx_at I m ty x) (h9 : I m 9 = nI p) (hp : p ≤ 60) (k0 : 0 < k) (k2 : k < 1000) : mm_ci mX8_sign [.ref m, .int (nI k)] S I (fun q J => q = (if cc ty x p = k then 1 else 0) ∧ J = mm_wr I m 9 (nI (if cc ty x p = k then p + 1 else p))) := by
  have hM0 := hM
  obtain ⟨hk, hp0, hp1, hp2, hp5, hp7, hp15, hk1, hk2, hk3, hk4, hk5, hk6⟩ := hM
  have heq : (k ≤ cc ty x p ∧ cc ty x p ≤ k) ↔ cc ty x p = k := ⟨fun q => by omega, fun q => by omega⟩
  refine mm_ci.of okX8_sign rfl (Nat.le_of_ble_eq_true rfl) (lv := [(0, .ref m), (1, .int (nI k))]) rfl ?_
  refine mm_aload_n dX8_sign_0 rfl rfl ?_
  refine mm_iload_n dX8_sign_1 rfl rfl ?_
  refine mm_iload_n dX8_sign_2 rfl rfl ?_
  refine mm_Vi (N := mX8_isAt) (ci := 8) (as := [_, _]) dX8_sign_3 lk_X8_154 okX8_isAt (by decide) rfl (by decide) rfl (by assumption) rfl (by decide) (at_in hM0 hT h9 hp k0 k2 k2) (fun r1 J1 hq => ?_)
  obtain ⟨rfl, hJ⟩ := hq
  subst J1
  by_cases hck : cc ty x p = k
  · rw [if_pos (heq.mpr hck)]
    refine mm_istore_n dX8_sign_6 rfl (Nat.le_of_ble_eq_true rfl) ?_
    refine mm_aload_n dX8_sign_7 rfl rfl ?_
    refine mm_dup dX8_sign_8 rfl ?_
    refine mm_getI dX8_sign_9 fl_X8_151 rfl (by assumption) ?_
    refine mm_tope (y := nI p) h9 ?_
    refine mm_iload_n dX8_sign_12 rfl rfl ?_
    refine mm_if_eq 20 dX8_sign_13 (by decide) (fun c_13 => absurd c_13 (by decide)) (fun c_13 => ?_)
    refine mm_iconst 1 dX8_sign_16 rfl ?_
    refine mm_goto 21 dX8_sign_17 (by decide) ?_
    refine mm_iadd dX8_sign_21 ?_
    refine mm_tope (y := nI (p + 1)) (nI_1 p) ?_
    refine mm_putI dX8_sign_22 fl_X8_151 rfl rfl (by assumption) ?_
    refine mm_iload_n dX8_sign_25 rfl rfl ?_
    refine mm_zret dX8_sign_26 rfl (by first | exact Or.inl rfl | exact Or.inr rfl | assumption) ?_
    exact ⟨rfl, _, rfl, (if_pos hck).symm, by rw [if_pos hck]⟩
  · rw [if_neg (fun q => hck (heq.mp q))]
    refine mm_istore_n dX8_sign_6 rfl (Nat.le_of_ble_eq_true rfl) ?_
    refine mm_aload_n dX8_sign_7 rfl rfl ?_
    refine mm_dup dX8_sign_8 rfl ?_
    refine mm_getI dX8_sign_9 fl_X8_151 rfl (by assumption) ?_
    refine mm_tope (y := nI p) h9 ?_
    refine mm_iload_n dX8_sign_12 rfl rfl ?_
    refine mm_if_eq 20 dX8_sign_13 (by decide) (fun c_13 => ?_) (fun c_13 => absurd rfl c_13)
    refine mm_iconst 0 dX8_sign_20 rfl ?_
    refine mm_iadd dX8_sign_21 ?_
    refine mm_tope (y := nI p) (Int32.add_zero _) ?_
    refine mm_putI dX8_sign_22 fl_X8_151 rfl rfl (by assumption) ?_
    refine mm_iload_n dX8_sign_25 rfl rfl ?_
    refine mm_zret dX8_sign_26 rfl (by first | exact Or.inl rfl | exact Or.inr rfl | assumption) ?_
    exact ⟨rfl, _, rfl, (if_neg hck).symm, by rw [if_neg hck]⟩
  
set_option maxRecDepth 100000 in
set_option maxHeartbeats 4000000 in
theorem r_number {S : mm_S} {I : mm_I} {m ty p i : Nat} {x : Nat → Nat} (hM : mm_ref S m) (hT : tx_at I m ty x) (h9 : I m 9 = nI p) (hp : p ≤ 60) (hi : i < 4) : mm_ci mX8_number [.ref m, .int (nI i)] S I (fun q J => q = (if p < (rdNum (cc ty x) 3 p 0).1 then 1 else 0) ∧ J m 9 = nI (rdNum (cc ty x) 3 p 0).1 ∧ J (m + 6) = upd (I (m + 6)) i (nI (rdNum (cc ty x) 3 p 0).2) ∧ J m 14 = I m 14 ∧ r_ft m I J) := by
  have hM0 := hM
  obtain ⟨hk, hp0, hp1, hp2, hp5, hp7, hp15, hk1, hk2, hk3, hk4, hk5, hk6⟩ := hM
  refine mm_ci.of okX8_number rfl (Nat.le_of_ble_eq_true rfl) (lv := [(0, .ref m), (1, .int (nI i))]) rfl ?_
  have hty := hT.2.1
  have loop : ∀ (u d v : Nat) (I1 : mm_I), d + u = 3 → p + d ≤ 60 → rdNum (cc ty x) u (p + d) v = rdNum (cc ty x) 3 p 0 → I1 m 9 = nI (p + d) → I1 (m + 6) = upd (I (m + 6)) i (nI v) → I1 m 14 = I m 14 → r_ft m I I1 → mm_Gi mX8_number (fun q J => q = (if p < (rdNum (cc ty x) 3 p 0).1 then 1 else 0) ∧ J m 9 = nI (rdNum (cc ty x) 3 p 0).1 ∧ J (m + 6) = upd (I (m + 6)) i (nI (rdNum (cc ty x) 3 p 0).2) ∧ J m 14 = I m 14 ∧ r_ft m I J) 12 [(2, .int (nI p)), (0, .ref m), (1, .int (nI i))] [] S S I1 := by
    intro u
    induction u with
    | zero =>
      intro d v I1 hdu hp60 hrd g9 g6 g14 gf
      have hd3 : d = 3 := by omega
      refine mm_aload_n dX8_number_12 rfl rfl ?_
      refine mm_bipush 48 dX8_number_13 rfl ?_
      refine mm_bipush 57 dX8_number_15 rfl ?_
      refine mm_Vi (N := mX8_isAt) (ci := 8) (as := [_, _]) dX8_number_17 lk_X8_154 okX8_isAt (by decide) rfl (by decide) rfl (by assumption) rfl (by decide) (at_in (a := 48) (b := 57) hM0 (gf.tx hT) g9 (by omega) (by omega) (by omega) (by omega)) (fun r1 J1 hq => ?_)
      obtain ⟨rfl, hJ⟩ := hq
      subst J1
      refine mm_if_eq 74 dX8_number_20 (by decide) (fun c_20 => ?_) (fun c_20 => ?_)
      · skip
        have n1 := if_no c_20
        have hR : rdNum (cc ty x) 3 p 0 = (p + d, v) := hrd.symm
        rcases Nat.eq_zero_or_pos d with hd0 | hd0
        · skip
          refine mm_aload_n dX8_number_74 rfl rfl ?_
          refine mm_getI dX8_number_75 fl_X8_151 rfl (by assumption) ?_
          refine mm_tope (y := nI (p + d)) g9 ?_
          refine mm_iload_n dX8_number_78 rfl rfl ?_
          refine mm_icmp_le 86 dX8_number_79 (by decide) (fun c_79 => ?_) (fun c_79 => absurd (nI_le (by omega) (by omega)) c_79)
          refine mm_iconst 0 dX8_number_86 rfl ?_
          refine mm_zret dX8_number_87 rfl (by first | exact Or.inl rfl | exact Or.inr rfl | assumption) ?_
          exact ⟨rfl, _, rfl, by rw [hR]; exact (if_neg (by show ¬ p < p + d; omega)).symm, by rw [hR]; exact g9, by rw [hR]; exact g6, g14, gf⟩
        · skip
          refine mm_aload_n dX8_number_74 rfl rfl ?_
          refine mm_getI dX8_number_75 fl_X8_151 rfl (by assumption) ?_
          refine mm_tope (y := nI (p + d)) g9 ?_
          refine mm_iload_n dX8_number_78 rfl rfl ?_
          refine mm_icmp_le 86 dX8_number_79 (by decide) (fun c_79 => absurd c_79 (nI_ge (by omega) (by omega))) (fun c_79 => ?_)
          refine mm_iconst 1 dX8_number_82 rfl ?_
          refine mm_goto 87 dX8_number_83 (by decide) ?_
          refine mm_zret dX8_number_87 rfl (by first | exact Or.inl rfl | exact Or.inr rfl | assumption) ?_
          exact ⟨rfl, _, rfl, by rw [hR]; exact (if_pos (show p < p + d by omega)).symm, by rw [hR]; exact g9, by rw [hR]; exact g6, g14, gf⟩
      · skip
        have y1 := if_yes c_20
        refine mm_aload_n dX8_number_23 rfl rfl ?_
        refine mm_getI dX8_number_24 fl_X8_151 rfl (by assumption) ?_
        refine mm_tope (y := nI (p + d)) g9 ?_
        refine mm_iload_n dX8_number_27 rfl rfl ?_
        refine mm_isub dX8_number_28 ?_
        refine mm_tope (y := nI d) ((pk_sub (by omega)).trans (congrArg nI (by omega))) ?_
        refine mm_iconst 3 dX8_number_29 rfl ?_
        refine mm_icmp_ge 74 dX8_number_30 (by decide) (fun c_30 => ?_) (fun c_30 => absurd (nI_le (a := 3) (by omega) (by omega)) c_30)
        have hR : rdNum (cc ty x) 3 p 0 = (p + d, v) := hrd.symm
        rcases Nat.eq_zero_or_pos d with hd0 | hd0
        · skip
          refine mm_aload_n dX8_number_74 rfl rfl ?_
          refine mm_getI dX8_number_75 fl_X8_151 rfl (by assumption) ?_
          refine mm_tope (y := nI (p + d)) g9 ?_
          refine mm_iload_n dX8_number_78 rfl rfl ?_
          refine mm_icmp_le 86 dX8_number_79 (by decide) (fun c_79 => ?_) (fun c_79 => absurd (nI_le (by omega) (by omega)) c_79)
          refine mm_iconst 0 dX8_number_86 rfl ?_
          refine mm_zret dX8_number_87 rfl (by first | exact Or.inl rfl | exact Or.inr rfl | assumption) ?_
          exact ⟨rfl, _, rfl, by rw [hR]; exact (if_neg (by show ¬ p < p + d; omega)).symm, by rw [hR]; exact g9, by rw [hR]; exact g6, g14, gf⟩
        · skip
          refine mm_aload_n dX8_number_74 rfl rfl ?_
          refine mm_getI dX8_number_75 fl_X8_151 rfl (by assumption) ?_
          refine mm_tope (y := nI (p + d)) g9 ?_
          refine mm_iload_n dX8_number_78 rfl rfl ?_
          refine mm_icmp_le 86 dX8_number_79 (by decide) (fun c_79 => absurd c_79 (nI_ge (by omega) (by omega))) (fun c_79 => ?_)
          refine mm_iconst 1 dX8_number_82 rfl ?_
          refine mm_goto 87 dX8_number_83 (by decide) ?_
          refine mm_zret dX8_number_87 rfl (by first | exact Or.inl rfl | exact Or.inr rfl | assumption) ?_
          exact ⟨rfl, _, rfl, by rw [hR]; exact (if_pos (show p < p + d by omega)).symm, by rw [hR]; exact g9, by rw [hR]; exact g6, g14, gf⟩
    | succ u ih =>
      intro d v I1 hdu hp60 hrd g9 g6 g14 gf
      refine mm_aload_n dX8_number_12 rfl rfl ?_
      refine mm_bipush 48 dX8_number_13 rfl ?_
      refine mm_bipush 57 dX8_number_15 rfl ?_
      refine mm_Vi (N := mX8_isAt) (ci := 8) (as := [_, _]) dX8_number_17 lk_X8_154 okX8_isAt (by decide) rfl (by decide) rfl (by assumption) rfl (by decide) (at_in (a := 48) (b := 57) hM0 (gf.tx hT) g9 (by omega) (by omega) (by omega) (by omega)) (fun r1 J1 hq => ?_)
      obtain ⟨rfl, hJ⟩ := hq
      subst J1
      refine mm_if_eq 74 dX8_number_20 (by decide) (fun c_20 => ?_) (fun c_20 => ?_)
      · skip
        have n1 := if_no c_20
        have hR : rdNum (cc ty x) 3 p 0 = (p + d, v) := by rw [← hrd]; exact rdNum_no n1
        rcases Nat.eq_zero_or_pos d with hd0 | hd0
        · skip
          refine mm_aload_n dX8_number_74 rfl rfl ?_
          refine mm_getI dX8_number_75 fl_X8_151 rfl (by assumption) ?_
          refine mm_tope (y := nI (p + d)) g9 ?_
          refine mm_iload_n dX8_number_78 rfl rfl ?_
          refine mm_icmp_le 86 dX8_number_79 (by decide) (fun c_79 => ?_) (fun c_79 => absurd (nI_le (by omega) (by omega)) c_79)
          refine mm_iconst 0 dX8_number_86 rfl ?_
          refine mm_zret dX8_number_87 rfl (by first | exact Or.inl rfl | exact Or.inr rfl | assumption) ?_
          exact ⟨rfl, _, rfl, by rw [hR]; exact (if_neg (by show ¬ p < p + d; omega)).symm, by rw [hR]; exact g9, by rw [hR]; exact g6, g14, gf⟩
        · skip
          refine mm_aload_n dX8_number_74 rfl rfl ?_
          refine mm_getI dX8_number_75 fl_X8_151 rfl (by assumption) ?_
          refine mm_tope (y := nI (p + d)) g9 ?_
          refine mm_iload_n dX8_number_78 rfl rfl ?_
          refine mm_icmp_le 86 dX8_number_79 (by decide) (fun c_79 => absurd c_79 (nI_ge (by omega) (by omega))) (fun c_79 => ?_)
          refine mm_iconst 1 dX8_number_82 rfl ?_
          refine mm_goto 87 dX8_number_83 (by decide) ?_
          refine mm_zret dX8_number_87 rfl (by first | exact Or.inl rfl | exact Or.inr rfl | assumption) ?_
          exact ⟨rfl, _, rfl, by rw [hR]; exact (if_pos (show p < p + d by omega)).symm, by rw [hR]; exact g9, by rw [hR]; exact g6, g14, gf⟩
      · skip
        have y1 := if_yes c_20
        have hin := (cc_in (by omega)).mp y1
        have hxp := (hT.2.2 (p + d) hin.1)
        have hcc : cc ty x (p + d) = x (p + d) := if_pos hin.1
        rw [rdNum_yes y1, hcc] at hrd
        have t6v : I1 (m + 6) i = nI v := by rw [g6]; exact if_pos rfl
        refine mm_aload_n dX8_number_23 rfl rfl ?_
        refine mm_getI dX8_number_24 fl_X8_151 rfl (by assumption) ?_
        refine mm_tope (y := nI (p + d)) g9 ?_
        refine mm_iload_n dX8_number_27 rfl rfl ?_
        refine mm_isub dX8_number_28 ?_
        refine mm_tope (y := nI d) ((pk_sub (by omega)).trans (congrArg nI (by omega))) ?_
        refine mm_iconst 3 dX8_number_29 rfl ?_
        refine mm_icmp_ge 74 dX8_number_30 (by decide) (fun c_30 => absurd c_30 (nI_ge (b := 3) (by omega) (by omega))) (fun c_30 => ?_)
        refine mm_aload_n dX8_number_33 rfl rfl ?_
        refine mm_getR dX8_number_34 fl_X8_25 rfl (by assumption) (by assumption) ?_
        refine mm_iload_n dX8_number_37 rfl rfl ?_
        refine mm_bipush 10 dX8_number_38 rfl ?_
        refine mm_aload_n dX8_number_40 rfl rfl ?_
        refine mm_getR dX8_number_41 fl_X8_25 rfl (by assumption) (by assumption) ?_
        refine mm_iload_n dX8_number_44 rfl rfl ?_
        refine mm_iald dX8_number_45 (by assumption) (vp_in_nI (n := i) (by omega) (by omega)) ?_
        refine mm_tope (y := nI v) (by rw [nI_clamp (by omega)]; exact t6v) ?_
        refine mm_imul dX8_number_46 ?_
        refine mm_tope (y := nI (10 * v)) (pk_mul 10 v) ?_
        refine mm_aload_n dX8_number_47 rfl rfl ?_
        refine mm_getR dX8_number_48 fl_X8_19 rfl (by assumption) (by assumption) ?_
        refine mm_aload_n dX8_number_51 rfl rfl ?_
        refine mm_getI dX8_number_52 fl_X8_151 rfl (by assumption) ?_
        refine mm_tope (y := nI (p + d)) g9 ?_
        refine mm_iald dX8_number_55 (by assumption) (vp_in_nI (n := p + d) (by omega) (by omega)) ?_
        refine mm_tope (y := nI (x (p + d))) (by rw [nI_clamp (by omega), gf.1 (m + 4) (by omega) (by omega)]; exact hxp.1) ?_
        refine mm_iadd dX8_number_56 ?_
        refine mm_tope (y := nI (10 * v + x (p + d))) (nI_add _ _) ?_
        refine mm_bipush 48 dX8_number_57 rfl ?_
        refine mm_isub dX8_number_59 ?_
        refine mm_tope (y := nI (10 * v + (x (p + d) - 48))) ((pk_sub (b := 48) (by omega)).trans (congrArg nI (by omega))) ?_
        refine mm_iast dX8_number_60 (by assumption) (vp_in_nI (n := i) (by omega) (by omega)) ?_
        rw [nI_clamp (by omega)]
        refine mm_aload_n dX8_number_61 rfl rfl ?_
        refine mm_dup dX8_number_62 rfl ?_
        refine mm_getI dX8_number_63 fl_X8_151 rfl (by assumption) ?_
        refine mm_tope (y := nI (p + d)) (by rw [mm_wr_a (by omega)]; exact g9) ?_
        refine mm_iconst 1 dX8_number_66 rfl ?_
        refine mm_iadd dX8_number_67 ?_
        refine mm_tope (y := nI (p + d + 1)) (nI_1 _) ?_
        refine mm_putI dX8_number_68 fl_X8_151 rfl rfl (by assumption) ?_
        refine mm_goto 12 dX8_number_71 (by decide) ?_
        exact mm_G.at (ih (d + 1) _ _ (by omega) (by omega) hrd mm_wr_s (by
          rw [mm_wr_row (by omega), mm_wr_upd, g6]
          funext j
          unfold upd
          by_cases e : j = i
          · rw [if_pos e, if_pos e]
          · rw [if_neg e, if_neg e, if_neg e]) (by rw [mm_wr_k (by omega), mm_wr_a (by omega)]; exact g14) (gf.w6.w9)) (mm_s1 rfl (mm_s1 rfl (mm_s1 rfl mm_s0)))
  refine mm_aload_n dX8_number_0 rfl rfl ?_
  refine mm_getI dX8_number_1 fl_X8_151 rfl (by assumption) ?_
  refine mm_tope (y := nI p) h9 ?_
  refine mm_istore_n dX8_number_4 rfl (Nat.le_of_ble_eq_true rfl) ?_
  refine mm_aload_n dX8_number_5 rfl rfl ?_
  refine mm_getR dX8_number_6 fl_X8_25 rfl (by assumption) (by assumption) ?_
  refine mm_iload_n dX8_number_9 rfl rfl ?_
  refine mm_iconst 0 dX8_number_10 rfl ?_
  refine mm_iast dX8_number_11 (by assumption) (vp_in_nI (n := i) (by omega) (by omega)) ?_
  rw [nI_clamp (by omega)]
  exact mm_G.at (loop 3 0 0 _ (by omega) hp rfl (by rw [mm_wr_a (by omega)]; exact h9) mm_wr_upd (mm_wr_a (by omega)) r_ft.rf.w6) (mm_s1 rfl (mm_s1 rfl (mm_s1 rfl mm_s0)))
set_option maxRecDepth 100000 in
set_option maxHeartbeats 4000000 in
theorem r_numbersOf {S : mm_S} {I : mm_I} {k : Nat} (hk : k < 1000) : mm_ci mX8_numbersOf [.int (nI k)] S I (fun q J => q = nI (nOf k) ∧ J = I) := by
  have hn : ∀ j, j < 1000 → (nI k = nI j ↔ k = j) := fun j hj => nI_eq (by omega) (by omega)
  refine mm_ci.of okX8_numbersOf rfl (Nat.le_of_ble_eq_true rfl) (lv := [(0, .int (nI k))]) rfl ?_
  refine mm_iload_n dX8_numbersOf_0 rfl rfl ?_
  refine mm_bipush 115 dX8_numbersOf_1 rfl ?_
  refine mm_icmp_ne 10 dX8_numbersOf_3 (by decide) (fun c_3 => ?_) (fun c_3 => ?_)
  · skip
    refine mm_iload_n dX8_numbersOf_10 rfl rfl ?_
    refine mm_bipush 108 dX8_numbersOf_11 rfl ?_
    refine mm_icmp_eq 22 dX8_numbersOf_13 (by decide) (fun c_13 => ?_) (fun c_13 => ?_)
    · skip
      refine mm_iconst 2 dX8_numbersOf_22 rfl ?_
      refine mm_goto 43 dX8_numbersOf_23 (by decide) ?_
      refine mm_iret dX8_numbersOf_43 rfl ?_
      refine ⟨rfl, _, rfl, ?_, rfl⟩
      unfold nOf
      first
        | (rw [if_pos ((hn 115 (by omega)).mp c_3)]; rfl)
        | (rw [if_neg (fun q => c_3 ((hn 115 (by omega)).mpr q)), if_pos (Or.inl ((hn 108 (by omega)).mp c_13))]; rfl)
        | (rw [if_neg (fun q => c_3 ((hn 115 (by omega)).mpr q)), if_pos (Or.inr ((hn 116 (by omega)).mp c_19))]; rfl)
        | (rw [if_neg (fun q => c_3 ((hn 115 (by omega)).mpr q)), if_neg (fun q => q.elim (fun e => c_13 ((hn 108 (by omega)).mpr e)) (fun e => c_19 ((hn 116 (by omega)).mpr e))), if_pos (Or.inl ((hn 109 (by omega)).mp c_29))]; rfl)
        | (rw [if_neg (fun q => c_3 ((hn 115 (by omega)).mpr q)), if_neg (fun q => q.elim (fun e => c_13 ((hn 108 (by omega)).mpr e)) (fun e => c_19 ((hn 116 (by omega)).mpr e))), if_pos (Or.inr ((hn 98 (by omega)).mp c_35))]; rfl)
        | (rw [if_neg (fun q => c_3 ((hn 115 (by omega)).mpr q)), if_neg (fun q => q.elim (fun e => c_13 ((hn 108 (by omega)).mpr e)) (fun e => c_19 ((hn 116 (by omega)).mpr e))), if_neg (fun q => q.elim (fun e => c_29 ((hn 109 (by omega)).mpr e)) (fun e => c_35 ((hn 98 (by omega)).mpr e)))]; rfl)
    · skip
      refine mm_iload_n dX8_numbersOf_16 rfl rfl ?_
      refine mm_bipush 116 dX8_numbersOf_17 rfl ?_
      refine mm_icmp_ne 26 dX8_numbersOf_19 (by decide) (fun c_19 => ?_) (fun c_19 => ?_)
      · skip
        refine mm_iload_n dX8_numbersOf_26 rfl rfl ?_
        refine mm_bipush 109 dX8_numbersOf_27 rfl ?_
        refine mm_icmp_eq 38 dX8_numbersOf_29 (by decide) (fun c_29 => ?_) (fun c_29 => ?_)
        · skip
          refine mm_iconst 1 dX8_numbersOf_38 rfl ?_
          refine mm_goto 43 dX8_numbersOf_39 (by decide) ?_
          refine mm_iret dX8_numbersOf_43 rfl ?_
          refine ⟨rfl, _, rfl, ?_, rfl⟩
          unfold nOf
          first
            | (rw [if_pos ((hn 115 (by omega)).mp c_3)]; rfl)
            | (rw [if_neg (fun q => c_3 ((hn 115 (by omega)).mpr q)), if_pos (Or.inl ((hn 108 (by omega)).mp c_13))]; rfl)
            | (rw [if_neg (fun q => c_3 ((hn 115 (by omega)).mpr q)), if_pos (Or.inr ((hn 116 (by omega)).mp c_19))]; rfl)
            | (rw [if_neg (fun q => c_3 ((hn 115 (by omega)).mpr q)), if_neg (fun q => q.elim (fun e => c_13 ((hn 108 (by omega)).mpr e)) (fun e => c_19 ((hn 116 (by omega)).mpr e))), if_pos (Or.inl ((hn 109 (by omega)).mp c_29))]; rfl)
            | (rw [if_neg (fun q => c_3 ((hn 115 (by omega)).mpr q)), if_neg (fun q => q.elim (fun e => c_13 ((hn 108 (by omega)).mpr e)) (fun e => c_19 ((hn 116 (by omega)).mpr e))), if_pos (Or.inr ((hn 98 (by omega)).mp c_35))]; rfl)
            | (rw [if_neg (fun q => c_3 ((hn 115 (by omega)).mpr q)), if_neg (fun q => q.elim (fun e => c_13 ((hn 108 (by omega)).mpr e)) (fun e => c_19 ((hn 116 (by omega)).mpr e))), if_neg (fun q => q.elim (fun e => c_29 ((hn 109 (by omega)).mpr e)) (fun e => c_35 ((hn 98 (by omega)).mpr e)))]; rfl)
        · skip
          refine mm_iload_n dX8_numbersOf_32 rfl rfl ?_
          refine mm_bipush 98 dX8_numbersOf_33 rfl ?_
          refine mm_icmp_ne 42 dX8_numbersOf_35 (by decide) (fun c_35 => ?_) (fun c_35 => ?_)
          · skip
            refine mm_iconst 0 dX8_numbersOf_42 rfl ?_
            refine mm_iret dX8_numbersOf_43 rfl ?_
            refine ⟨rfl, _, rfl, ?_, rfl⟩
            unfold nOf
            first
              | (rw [if_pos ((hn 115 (by omega)).mp c_3)]; rfl)
              | (rw [if_neg (fun q => c_3 ((hn 115 (by omega)).mpr q)), if_pos (Or.inl ((hn 108 (by omega)).mp c_13))]; rfl)
              | (rw [if_neg (fun q => c_3 ((hn 115 (by omega)).mpr q)), if_pos (Or.inr ((hn 116 (by omega)).mp c_19))]; rfl)
              | (rw [if_neg (fun q => c_3 ((hn 115 (by omega)).mpr q)), if_neg (fun q => q.elim (fun e => c_13 ((hn 108 (by omega)).mpr e)) (fun e => c_19 ((hn 116 (by omega)).mpr e))), if_pos (Or.inl ((hn 109 (by omega)).mp c_29))]; rfl)
              | (rw [if_neg (fun q => c_3 ((hn 115 (by omega)).mpr q)), if_neg (fun q => q.elim (fun e => c_13 ((hn 108 (by omega)).mpr e)) (fun e => c_19 ((hn 116 (by omega)).mpr e))), if_pos (Or.inr ((hn 98 (by omega)).mp c_35))]; rfl)
              | (rw [if_neg (fun q => c_3 ((hn 115 (by omega)).mpr q)), if_neg (fun q => q.elim (fun e => c_13 ((hn 108 (by omega)).mpr e)) (fun e => c_19 ((hn 116 (by omega)).mpr e))), if_neg (fun q => q.elim (fun e => c_29 ((hn 109 (by omega)).mpr e)) (fun e => c_35 ((hn 98 (by omega)).mpr e)))]; rfl)
          · skip
            refine mm_iconst 1 dX8_numbersOf_38 rfl ?_
            refine mm_goto 43 dX8_numbersOf_39 (by decide) ?_
            refine mm_iret dX8_numbersOf_43 rfl ?_
            refine ⟨rfl, _, rfl, ?_, rfl⟩
            unfold nOf
            first
              | (rw [if_pos ((hn 115 (by omega)).mp c_3)]; rfl)
              | (rw [if_neg (fun q => c_3 ((hn 115 (by omega)).mpr q)), if_pos (Or.inl ((hn 108 (by omega)).mp c_13))]; rfl)
              | (rw [if_neg (fun q => c_3 ((hn 115 (by omega)).mpr q)), if_pos (Or.inr ((hn 116 (by omega)).mp c_19))]; rfl)
              | (rw [if_neg (fun q => c_3 ((hn 115 (by omega)).mpr q)), if_neg (fun q => q.elim (fun e => c_13 ((hn 108 (by omega)).mpr e)) (fun e => c_19 ((hn 116 (by omega)).mpr e))), if_pos (Or.inl ((hn 109 (by omega)).mp c_29))]; rfl)
              | (rw [if_neg (fun q => c_3 ((hn 115 (by omega)).mpr q)), if_neg (fun q => q.elim (fun e => c_13 ((hn 108 (by omega)).mpr e)) (fun e => c_19 ((hn 116 (by omega)).mpr e))), if_pos (Or.inr ((hn 98 (by omega)).mp c_35))]; rfl)
              | (rw [if_neg (fun q => c_3 ((hn 115 (by omega)).mpr q)), if_neg (fun q => q.elim (fun e => c_13 ((hn 108 (by omega)).mpr e)) (fun e => c_19 ((hn 116 (by omega)).mpr e))), if_neg (fun q => q.elim (fun e => c_29 ((hn 109 (by omega)).mpr e)) (fun e => c_35 ((hn 98 (by omega)).mpr e)))]; rfl)
      · skip
        refine mm_iconst 2 dX8_numbersOf_22 rfl ?_
        refine mm_goto 43 dX8_numbersOf_23 (by decide) ?_
        refine mm_iret dX8_numbersOf_43 rfl ?_
        refine ⟨rfl, _, rfl, ?_, rfl⟩
        unfold nOf
        first
          | (rw [if_pos ((hn 115 (by omega)).mp c_3)]; rfl)
          | (rw [if_neg (fun q => c_3 ((hn 115 (by omega)).mpr q)), if_pos (Or.inl ((hn 108 (by omega)).mp c_13))]; rfl)
          | (rw [if_neg (fun q => c_3 ((hn 115 (by omega)).mpr q)), if_pos (Or.inr ((hn 116 (by omega)).mp c_19))]; rfl)
          | (rw [if_neg (fun q => c_3 ((hn 115 (by omega)).mpr q)), if_neg (fun q => q.elim (fun e => c_13 ((hn 108 (by omega)).mpr e)) (fun e => c_19 ((hn 116 (by omega)).mpr e))), if_pos (Or.inl ((hn 109 (by omega)).mp c_29))]; rfl)
          | (rw [if_neg (fun q => c_3 ((hn 115 (by omega)).mpr q)), if_neg (fun q => q.elim (fun e => c_13 ((hn 108 (by omega)).mpr e)) (fun e => c_19 ((hn 116 (by omega)).mpr e))), if_pos (Or.inr ((hn 98 (by omega)).mp c_35))]; rfl)
          | (rw [if_neg (fun q => c_3 ((hn 115 (by omega)).mpr q)), if_neg (fun q => q.elim (fun e => c_13 ((hn 108 (by omega)).mpr e)) (fun e => c_19 ((hn 116 (by omega)).mpr e))), if_neg (fun q => q.elim (fun e => c_29 ((hn 109 (by omega)).mpr e)) (fun e => c_35 ((hn 98 (by omega)).mpr e)))]; rfl)
  · skip
    refine mm_iconst 4 dX8_numbersOf_6 rfl ?_
    refine mm_goto 43 dX8_numbersOf_7 (by decide) ?_
    refine mm_iret dX8_numbersOf_43 rfl ?_
    refine ⟨rfl, _, rfl, ?_, rfl⟩
    unfold nOf
    first
      | (rw [if_pos ((hn 115 (by omega)).mp c_3)]; rfl)
      | (rw [if_neg (fun q => c_3 ((hn 115 (by omega)).mpr q)), if_pos (Or.inl ((hn 108 (by omega)).mp c_13))]; rfl)
      | (rw [if_neg (fun q => c_3 ((hn 115 (by omega)).mpr q)), if_pos (Or.inr ((hn 116 (by omega)).mp c_19))]; rfl)
      | (rw [if_neg (fun q => c_3 ((hn 115 (by omega)).mpr q)), if_neg (fun q => q.elim (fun e => c_13 ((hn 108 (by omega)).mpr e)) (fun e => c_19 ((hn 116 (by omega)).mpr e))), if_pos (Or.inl ((hn 109 (by omega)).mp c_29))]; rfl)
      | (rw [if_neg (fun q => c_3 ((hn 115 (by omega)).mpr q)), if_neg (fun q => q.elim (fun e => c_13 ((hn 108 (by omega)).mpr e)) (fun e => c_19 ((hn 116 (by omega)).mpr e))), if_pos (Or.inr ((hn 98 (by omega)).mp c_35))]; rfl)
      | (rw [if_neg (fun q => c_3 ((hn 115 (by omega)).mpr q)), if_neg (fun q => q.elim (fun e => c_13 ((hn 108 (by omega)).mpr e)) (fun e => c_19 ((hn 116 (by omega)).mpr e))), if_neg (fun q => q.elim (fun e => c_29 ((hn 109 (by omega)).mpr e)) (fun e => c_35 ((hn 98 (by omega)).mpr e)))]; rfl)
