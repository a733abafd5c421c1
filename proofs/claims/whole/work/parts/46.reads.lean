/-! THE REFERENCE: an order is read, and done -/
theorem rdF_f {c : Nat → Nat} {u k q : Nat} {v : Nat → Int32} : rdF c u k q false v = (false, q, v) := by
  cases u with
  | zero => exact if_neg (fun h => by cases h.1)
  | succ u => exact if_neg (fun h => by cases h.1)
theorem cc_0 {ty p : Nat} {x : Nat → Nat} (h : ty ≤ p) : cc ty x p = 0 := if_neg (by omega)
theorem cc_lt {ty p : Nat} {x : Nat → Nat} (h : ¬ cc ty x p = 0) : p < ty := by
  rcases Nat.lt_or_ge p ty with e | e
  · exact e
  · exact absurd (cc_0 e) h
theorem rdF_le {c : Nat → Nat} {ty : Nat} (hc : ∀ p, ty ≤ p → c p = 0) : ∀ (u k q : Nat) (b : Bool) (v : Nat → Int32), q ≤ ty → q ≤ (rdF c u k q b v).2.1 ∧ (rdF c u k q b v).2.1 ≤ ty
  | 0, k, q, b, v, hq => by
    unfold rdF
    split
    · rename_i h
      have : q < ty := by
        rcases Nat.lt_or_ge q ty with e | e
        · exact e
        · have := hc q e; omega
      exact ⟨Nat.le_succ q, this⟩
    · exact ⟨Nat.le_refl _, hq⟩
  | u + 1, k, q, b, v, hq => by
    unfold rdF
    split
    · rename_i h
      have : q < ty := by
        rcases Nat.lt_or_ge q ty with e | e
        · exact e
        · have := hc q e; omega
      have h1 := rdNum_le hc 3 (q + 1) 0
      have h2 := rdF_le hc u (k + 1) (rdNum c 3 (q + 1) 0).1 (decide (q + 1 < (rdNum c 3 (q + 1) 0).1)) (upd v k (nI (rdNum c 3 (q + 1) 0).2)) (by omega)
      exact ⟨by omega, h2.2⟩
    · exact ⟨Nat.le_refl _, hq⟩
theorem nOf_0 : nOf 0 = 0 := rfl
theorem rdO_le {c : Nat → Nat} {ty p : Nat} {v : Nat → Int32} (hc : ∀ p, ty ≤ p → c p = 0) (hp : p < ty) : p ≤ (rdO c p v).2.1 ∧ (rdO c p v).2.1 ≤ ty ∧ ((rdO c p v).1 = true → p < (rdO c p v).2.1) := by
  unfold rdO
  split
  · exact ⟨Nat.le_refl _, Nat.le_of_lt hp, fun h => by cases h⟩
  · have h1 := rdNum_le hc 3 (p + 1) 0
    have h2 := rdF_le hc (nOf (c p) - 1) 1 (rdNum c 3 (p + 1) 0).1 (decide (p + 1 < (rdNum c 3 (p + 1) 0).1)) (upd v 0 (nI (rdNum c 3 (p + 1) 0).2)) (by omega)
    exact ⟨by omega, h2.2, fun _ => by omega⟩
theorem nOf_le (k : Nat) : nOf k ≤ 4 := by
  unfold nOf
  split
  · omega
  · split
    · omega
    · split <;> omega

set_option maxRecDepth 100000 in
set_option maxHeartbeats 4000000 in
theorem r_readsLoop {S : mm_S} {I : mm_I} {m ty n k0 : Nat} {x : Nat → Nat} {R : Bool × Nat × (Nat → Int32)} (hM : mm_ref S m) (hT : tx_at I m ty x) (hn : n ≤ 4) : ∀ (u k q : Nat) (b : Bool) (v : Nat → Int32) (I1 : mm_I), k + u = n → 0 < k → q ≤ 60 → rdF (cc ty x) u k q b v = R → I1 m 9 = nI q → I1 (m + 6) = v → I1 m 14 = nI k0 → r_ft m I I1 → mm_Gi mX8_reads (fun q J => q = (if R.1 = true then 1 else 0) ∧ J m 9 = nI R.2.1 ∧ J (m + 6) = R.2.2 ∧ (R.1 = true → J m 14 = nI k0) ∧ r_ft m I J) 60 [(3, .int (nI k)), (2, .int (if b = true then 1 else 0)), (0, .ref m), (1, .int (nI n))] [] S S I1 := by
  have hM0 := hM
  obtain ⟨hk, hp0, hp1, hp2, hp5, hp7, hp15, hk1, hk2, hk3, hk4, hk5, hk6⟩ := hM
  have hty := hT.2.1
  have ex0 : ∀ (k q : Nat) (v : Nat → Int32) (I1 : mm_I), k ≤ 9 → R = (false, q, v) → I1 m 9 = nI q → I1 (m + 6) = v → r_ft m I I1 → mm_Gi mX8_reads (fun q J => q = (if R.1 = true then 1 else 0) ∧ J m 9 = nI R.2.1 ∧ J (m + 6) = R.2.2 ∧ (R.1 = true → J m 14 = nI k0) ∧ r_ft m I J) 60 [(3, .int (nI k)), (2, .int 0), (0, .ref m), (1, .int (nI n))] [] S S I1 := by
    intro k q v I1 hk hRx g9 g6 gf
    refine mm_iload_n dX8_reads_60 rfl rfl ?_
    refine mm_iload_n dX8_reads_61 rfl rfl ?_
    refine mm_icmp_ge 98 dX8_reads_62 (by decide) (fun c_62 => ?_) (fun c_62 => ?_)
    · skip
      refine mm_iload_n dX8_reads_98 rfl rfl ?_
      refine mm_if_eq 115 dX8_reads_99 (by decide) (fun c_99 => ?_) (fun c_99 => absurd rfl c_99)
      refine mm_iconst 0 dX8_reads_115 rfl ?_
      refine mm_zret dX8_reads_116 rfl (by first | exact Or.inl rfl | exact Or.inr rfl | assumption) ?_
      exact ⟨rfl, _, rfl, by rw [hRx]; rfl, by rw [hRx]; exact g9, by rw [hRx]; exact g6, fun h => by (rw [hRx] at h; cases h), gf⟩
    · skip
      refine mm_iload_n dX8_reads_65 rfl rfl ?_
      refine mm_if_eq 98 dX8_reads_66 (by decide) (fun c_66 => ?_) (fun c_66 => absurd rfl c_66)
      refine mm_iload_n dX8_reads_98 rfl rfl ?_
      refine mm_if_eq 115 dX8_reads_99 (by decide) (fun c_99 => ?_) (fun c_99 => absurd rfl c_99)
      refine mm_iconst 0 dX8_reads_115 rfl ?_
      refine mm_zret dX8_reads_116 rfl (by first | exact Or.inl rfl | exact Or.inr rfl | assumption) ?_
      exact ⟨rfl, _, rfl, by rw [hRx]; rfl, by rw [hRx]; exact g9, by rw [hRx]; exact g6, fun h => by (rw [hRx] at h; cases h), gf⟩
  intro u
  induction u with
  | zero =>
    intro k q b v I1 hku hk0 hq60 hR g9 g6 g14 gf
    cases b with
    | false => exact ex0 k q v I1 (by omega) (by rw [← hR]; exact rdF_f) g9 g6 gf
    | true =>
      refine mm_iload_n dX8_reads_60 rfl rfl ?_
      refine mm_iload_n dX8_reads_61 rfl rfl ?_
      refine mm_icmp_ge 98 dX8_reads_62 (by decide) (fun c_62 => ?_) (fun c_62 => absurd (nI_le (by omega) (by omega)) c_62)
      refine mm_iload_n dX8_reads_98 rfl rfl ?_
      refine mm_if_eq 115 dX8_reads_99 (by decide) (fun c_99 => absurd c_99 (by decide)) (fun c_99 => ?_)
      refine mm_aload_n dX8_reads_102 rfl rfl ?_
      refine mm_bipush 59 dX8_reads_103 rfl ?_
      refine mm_Vi (N := mX8_sign) (ci := 8) (as := [_]) dX8_reads_105 lk_X8_166 okX8_sign (by decide) rfl (by decide) rfl (by assumption) rfl (by decide) (r_sign (k := 59) hM0 (gf.tx hT) g9 hq60 (by omega) (by omega)) (fun r1 J1 hq => ?_)
      obtain ⟨rfl, hJ⟩ := hq
      refine mm_if_eq 115 dX8_reads_108 (by decide) (fun c_108 => ?_) (fun c_108 => ?_)
      · skip
        have n1 := if_no c_108
        have hRx : R = (false, q, v) := by rw [← hR]; exact if_neg (fun h => n1 h.2)
        rw [if_neg n1] at hJ
        refine mm_iconst 0 dX8_reads_115 rfl ?_
        refine mm_zret dX8_reads_116 rfl (by first | exact Or.inl rfl | exact Or.inr rfl | assumption) ?_
        subst J1
        exact ⟨rfl, _, rfl, by rw [hRx]; rfl, by rw [hRx]; exact mm_wr_s, by rw [hRx, mm_wr_row (by omega)]; exact g6, fun h => (mm_wr_k (by omega)).trans g14, gf.w9⟩
      · skip
        have y1 := if_yes c_108
        have hRx : R = (true, q + 1, v) := by rw [← hR]; exact if_pos ⟨rfl, y1⟩
        rw [if_pos y1] at hJ
        refine mm_iconst 1 dX8_reads_111 rfl ?_
        refine mm_goto 116 dX8_reads_112 (by decide) ?_
        refine mm_zret dX8_reads_116 rfl (by first | exact Or.inl rfl | exact Or.inr rfl | assumption) ?_
        subst J1
        exact ⟨rfl, _, rfl, by rw [hRx]; rfl, by rw [hRx]; exact mm_wr_s, by rw [hRx, mm_wr_row (by omega)]; exact g6, fun h => (mm_wr_k (by omega)).trans g14, gf.w9⟩
  | succ u ih =>
    intro k q b v I1 hku hk0 hq60 hR g9 g6 g14 gf
    cases b with
    | false => exact ex0 k q v I1 (by omega) (by rw [← hR]; exact rdF_f) g9 g6 gf
    | true =>
      refine mm_iload_n dX8_reads_60 rfl rfl ?_
      refine mm_iload_n dX8_reads_61 rfl rfl ?_
      refine mm_icmp_ge 98 dX8_reads_62 (by decide) (fun c_62 => absurd c_62 (nI_ge (by omega) (by omega))) (fun c_62 => ?_)
      refine mm_iload_n dX8_reads_65 rfl rfl ?_
      refine mm_if_eq 98 dX8_reads_66 (by decide) (fun c_66 => absurd c_66 (by decide)) (fun c_66 => ?_)
      refine mm_aload_n dX8_reads_69 rfl rfl ?_
      refine mm_bipush 44 dX8_reads_70 rfl ?_
      refine mm_Vi (N := mX8_sign) (ci := 8) (as := [_]) dX8_reads_72 lk_X8_166 okX8_sign (by decide) rfl (by decide) rfl (by assumption) rfl (by decide) (r_sign (k := 44) hM0 (gf.tx hT) g9 hq60 (by omega) (by omega)) (fun r1 J1 hq => ?_)
      obtain ⟨rfl, hJ⟩ := hq
      refine mm_if_eq 90 dX8_reads_75 (by decide) (fun c_75 => ?_) (fun c_75 => ?_)
      · skip
        have n1 := if_no c_75
        have hRx : R = (false, q, v) := by rw [← hR]; exact if_neg (fun h => n1 h.2)
        rw [if_neg n1] at hJ
        have G9 : J1 m 9 = nI q := by rw [hJ]; exact mm_wr_s
        have G6 : J1 (m + 6) = v := by rw [hJ, mm_wr_row (by omega)]; exact g6
        have Gf : r_ft m I J1 := by rw [hJ]; exact gf.w9
        refine mm_iconst 0 dX8_reads_90 rfl ?_
        refine mm_istore_n dX8_reads_91 rfl (Nat.le_of_ble_eq_true rfl) ?_
        refine mm_iinc 1 dX8_reads_92 rfl rfl (Nat.le_of_ble_eq_true rfl) ?_
        rw [nI_1]
        refine mm_goto 60 dX8_reads_95 (by decide) ?_
        first
          | exact mm_G.at (ex0 (k + 1) _ _ _ (by omega) hRx G9 G6 Gf) (mm_s1 rfl (mm_s1 rfl (mm_s1 rfl (mm_s1 rfl mm_s0))))
          | exact mm_G.at (ex0 (k + 1) _ _ _ (by omega) hRx2 w9 w6 Wf) (mm_s1 rfl (mm_s1 rfl (mm_s1 rfl (mm_s1 rfl mm_s0))))
          | exact mm_G.at (ih (k + 1) _ true _ _ (by omega) (by omega) (by omega) hR2 w9 w6 W14 Wf) (mm_s1 rfl (mm_s1 rfl (mm_s1 rfl (mm_s1 rfl mm_s0))))
      · skip
        have y1 := if_yes c_75
        have hR2 : rdF (cc ty x) u (k + 1) (rdNum (cc ty x) 3 (q + 1) 0).1 (decide (q + 1 < (rdNum (cc ty x) 3 (q + 1) 0).1)) (upd v k (nI (rdNum (cc ty x) 3 (q + 1) 0).2)) = R := by rw [← hR]; exact (if_pos ⟨rfl, y1⟩).symm
        rw [if_pos y1] at hJ
        have hqt : q < ty := cc_lt (by rw [y1]; decide)
        have hz := rdNum_le (c := cc ty x) (ty := ty) (fun p hp => cc_0 hp) 3 (q + 1) 0
        have G9 : J1 m 9 = nI (q + 1) := by rw [hJ]; exact mm_wr_s
        have G6 : J1 (m + 6) = v := by rw [hJ, mm_wr_row (by omega)]; exact g6
        have G14 : J1 m 14 = nI k0 := by rw [hJ]; exact (mm_wr_k (by omega)).trans g14
        have Gf : r_ft m I J1 := by rw [hJ]; exact gf.w9
        refine mm_aload_n dX8_reads_78 rfl rfl ?_
        refine mm_iload_n dX8_reads_79 rfl rfl ?_
        refine mm_Vi (N := mX8_number) (ci := 8) (as := [_]) dX8_reads_80 lk_X8_163 okX8_number (by decide) rfl (by decide) rfl (by assumption) rfl (by decide) (r_number hM0 (Gf.tx hT) G9 (by omega) (by omega)) (fun r2 J2 hq => ?_)
        obtain ⟨rfl, w9, w6, w14, wf⟩ := hq
        rw [G6] at w6
        have Wf := Gf.tr wf
        have W14 := w14.trans G14
        refine mm_if_eq 90 dX8_reads_83 (by decide) (fun c_83 => ?_) (fun c_83 => ?_)
        · skip
          have n2 := if_no c_83
          have hRx2 : R = (false, (rdNum (cc ty x) 3 (q + 1) 0).1, upd v k (nI (rdNum (cc ty x) 3 (q + 1) 0).2)) := by rw [← hR2, decide_eq_false n2]; exact rdF_f
          refine mm_iconst 0 dX8_reads_90 rfl ?_
          refine mm_istore_n dX8_reads_91 rfl (Nat.le_of_ble_eq_true rfl) ?_
          refine mm_iinc 1 dX8_reads_92 rfl rfl (Nat.le_of_ble_eq_true rfl) ?_
          rw [nI_1]
          refine mm_goto 60 dX8_reads_95 (by decide) ?_
          first
            | exact mm_G.at (ex0 (k + 1) _ _ _ (by omega) hRx G9 G6 Gf) (mm_s1 rfl (mm_s1 rfl (mm_s1 rfl (mm_s1 rfl mm_s0))))
            | exact mm_G.at (ex0 (k + 1) _ _ _ (by omega) hRx2 w9 w6 Wf) (mm_s1 rfl (mm_s1 rfl (mm_s1 rfl (mm_s1 rfl mm_s0))))
            | exact mm_G.at (ih (k + 1) _ true _ _ (by omega) (by omega) (by omega) hR2 w9 w6 W14 Wf) (mm_s1 rfl (mm_s1 rfl (mm_s1 rfl (mm_s1 rfl mm_s0))))
        · skip
          have y2 := if_yes c_83
          rw [decide_eq_true y2] at hR2
          refine mm_iconst 1 dX8_reads_86 rfl ?_
          refine mm_goto 91 dX8_reads_87 (by decide) ?_
          refine mm_istore_n dX8_reads_91 rfl (Nat.le_of_ble_eq_true rfl) ?_
          refine mm_iinc 1 dX8_reads_92 rfl rfl (Nat.le_of_ble_eq_true rfl) ?_
          rw [nI_1]
          refine mm_goto 60 dX8_reads_95 (by decide) ?_
          first
            | exact mm_G.at (ex0 (k + 1) _ _ _ (by omega) hRx G9 G6 Gf) (mm_s1 rfl (mm_s1 rfl (mm_s1 rfl (mm_s1 rfl mm_s0))))
            | exact mm_G.at (ex0 (k + 1) _ _ _ (by omega) hRx2 w9 w6 Wf) (mm_s1 rfl (mm_s1 rfl (mm_s1 rfl (mm_s1 rfl mm_s0))))
            | exact mm_G.at (ih (k + 1) _ true _ _ (by omega) (by omega) (by omega) hR2 w9 w6 W14 Wf) (mm_s1 rfl (mm_s1 rfl (mm_s1 rfl (mm_s1 rfl mm_s0))))
