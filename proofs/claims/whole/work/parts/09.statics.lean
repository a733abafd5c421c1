/-! THE STATIC HELPERS of WineFutures -/
def mm_row (I : mm_I) (b n : Nat) (f : Nat → Int32) : mm_I := fun c j => if c = b ∧ j < n then f j else I c j
def is_sum (f : Nat → Int32) : Nat → Int32
  | 0 => 0
  | n + 1 => is_sum f n + f n
theorem mm_row_in {I : mm_I} {b n j : Nat} {f : Nat → Int32} (h : j < n) : mm_row I b n f b j = f j := by simp [mm_row, h]
theorem mm_row_out {I : mm_I} {b n j : Nat} {f : Nat → Int32} (h : n ≤ j) : mm_row I b n f b j = I b j := by simp [mm_row, Nat.not_lt.mpr h]
theorem mm_row_ne {I : mm_I} {b n c : Nat} {f : Nat → Int32} (h : c ≠ b) : mm_row I b n f c = I c := by funext j; simp [mm_row, h]
theorem mm_row_0 {I : mm_I} {b : Nat} {f : Nat → Int32} : mm_row I b 0 f = I := by funext c j; simp [mm_row]
theorem mm_row_S {I : mm_I} {b i : Nat} {f : Nat → Int32} : mm_wr (mm_row I b i f) b i (f i) = mm_row I b (i + 1) f := by
  funext c j
  unfold mm_wr mm_row
  by_cases hc : c = b
  · by_cases hj : j = i
    · subst hj
      simp [hc]
    · simp only [hc, hj, true_and, and_false, if_false]
      by_cases h : j < i
      · simp [h, Nat.lt_succ_of_lt h]
      · simp [h, show ¬ j < i + 1 by omega]
  · simp [hc]
theorem mm_row_wr {I : mm_I} {b n a k : Nat} {f : Nat → Int32} {x : Int32} (h : a ≠ b) : mm_row (mm_wr I a k x) b n f = mm_wr (mm_row I b n f) a k x := by
  funext c j
  unfold mm_wr mm_row
  by_cases hc : c = b
  · subst hc
    simp [Ne.symm h]
  · simp [hc]
theorem is_sum_congr {f g : Nat → Int32} : ∀ n, (∀ k, k < n → f k = g k) → is_sum f n = is_sum g n
  | 0, _ => rfl
  | n + 1, h => by
    show is_sum f n + f n = is_sum g n + g n
    rw [is_sum_congr n (fun k hk => h k (Nat.lt_succ_of_lt hk)), h n (Nat.lt_succ_self n)]

set_option maxRecDepth 100000 in
set_option maxHeartbeats 4000000 in
theorem c_within {S : mm_S} {I : mm_I} {v x y : Int32} : mm_ci mX7_within [.int v, .int x, .int y] S I (fun q J => q = (if x ≤ v ∧ v ≤ y then 1 else 0) ∧ J = I) := by
  refine mm_ci.of okX7_within rfl (Nat.le_of_ble_eq_true rfl) (lv := [(0, .int v), (1, .int x), (2, .int y)]) rfl ?_
  refine mm_iload_n dX7_within_0 rfl rfl ?_
  refine mm_iload_n dX7_within_1 rfl rfl ?_
  refine mm_icmp_lt 14 dX7_within_2 (by decide) (fun c1 => ?_) (fun c1 => ?_)
  · skip
    refine mm_iconst 0 dX7_within_14 rfl ?_
    refine mm_zret dX7_within_15 rfl (by first | exact Or.inl rfl | exact Or.inr rfl | assumption) ?_
    exact ⟨rfl, _, rfl, by first | exact (if_neg (fun q => absurd c1 (Int32.not_lt.mpr q.1))).symm | exact (if_neg (fun q => absurd c2 (Int32.not_lt.mpr q.2))).symm | exact (if_pos ⟨Int32.not_lt.mp c1, Int32.not_lt.mp c2⟩).symm, rfl⟩
  · skip
    refine mm_iload_n dX7_within_5 rfl rfl ?_
    refine mm_iload_n dX7_within_6 rfl rfl ?_
    refine mm_icmp_gt 14 dX7_within_7 (by decide) (fun c2 => ?_) (fun c2 => ?_)
    · skip
      refine mm_iconst 0 dX7_within_14 rfl ?_
      refine mm_zret dX7_within_15 rfl (by first | exact Or.inl rfl | exact Or.inr rfl | assumption) ?_
      exact ⟨rfl, _, rfl, by first | exact (if_neg (fun q => absurd c1 (Int32.not_lt.mpr q.1))).symm | exact (if_neg (fun q => absurd c2 (Int32.not_lt.mpr q.2))).symm | exact (if_pos ⟨Int32.not_lt.mp c1, Int32.not_lt.mp c2⟩).symm, rfl⟩
    · skip
      refine mm_iconst 1 dX7_within_10 rfl ?_
      refine mm_goto 15 dX7_within_11 (by decide) ?_
      refine mm_zret dX7_within_15 rfl (by first | exact Or.inl rfl | exact Or.inr rfl | assumption) ?_
      exact ⟨rfl, _, rfl, by first | exact (if_neg (fun q => absurd c1 (Int32.not_lt.mpr q.1))).symm | exact (if_neg (fun q => absurd c2 (Int32.not_lt.mpr q.2))).symm | exact (if_pos ⟨Int32.not_lt.mp c1, Int32.not_lt.mp c2⟩).symm, rfl⟩
set_option maxRecDepth 100000 in
set_option maxHeartbeats 4000000 in
theorem c_share {S : mm_S} {I : mm_I} {x y z : Nat} (hx : x < 2 ^ 31) (hy : y < 2 ^ 31) (hz : z < 2 ^ 31) (hq : x * y < 2 ^ 31) : mm_ci mX7_share [.int (nI x), .int (nI y), .int (nI z)] S I (fun q J => q = nI (x * y / z) ∧ J = I) := by
  refine mm_ci.of okX7_share rfl (Nat.le_of_ble_eq_true rfl) (lv := [(0, .int (nI x)), (1, .int (nI y)), (2, .int (nI z))]) rfl ?_
  refine mm_iload_n dX7_share_0 rfl rfl ?_
  refine mm_if_gt 6 dX7_share_1 (by decide) (fun c_1 => ?_) (fun c_1 => ?_)
  · skip
    have hz0 : 0 < z := by
      rcases Nat.eq_zero_or_pos z with e | e
      · subst e; exact absurd c_1 (by decide)
      · exact e
    have hne : ¬ (nI z).toInt64 = 0 := by
      rw [nI_l hz]
      intro e
      have := (lN_eq (a := z) (b := 0) hz (by decide)).mp e
      omega
    refine mm_iload_n dX7_share_6 rfl rfl ?_
    refine mm_i2l dX7_share_7 ?_
    refine mm_iload_n dX7_share_8 rfl rfl ?_
    refine mm_i2l dX7_share_9 ?_
    refine mm_lmul dX7_share_10 ?_
    refine mm_iload_n dX7_share_11 rfl rfl ?_
    refine mm_i2l dX7_share_12 ?_
    refine mm_ldiv dX7_share_13 (by assumption) ?_
    refine mm_l2i dX7_share_14 ?_
    refine mm_iret dX7_share_15 rfl ?_
    exact ⟨rfl, _, rfl, by rw [nI_l hx, nI_l hy, nI_l hz, lN_mul, pk_lDiv (by omega) hz0 (by omega), lN_i], rfl⟩
  · skip
    have hz0 : z = 0 := by
      rcases Nat.eq_zero_or_pos z with e | e
      · exact e
      · exact absurd (nI_lt e hz) c_1
    refine mm_iconst 0 dX7_share_4 rfl ?_
    refine mm_iret dX7_share_5 rfl ?_
    exact ⟨rfl, _, rfl, by rw [hz0, Nat.div_zero]; rfl, rfl⟩
set_option maxRecDepth 100000 in
set_option maxHeartbeats 4000000 in
theorem c_sum {S : mm_S} {I : mm_I} {a N : Nat} (ha : S.2.1 a = (9, N)) (hN : N < 1000) : mm_ci mX7_sum [.ref a] S I (fun q J => q = is_sum (I a) N ∧ J = I) := by
  refine mm_ci.of okX7_sum rfl (Nat.le_of_ble_eq_true rfl) (lv := [(0, .ref a)]) rfl ?_
  have loop : ∀ (n i : Nat), i + n = N → mm_Gi mX7_sum (fun q J => q = is_sum (I a) N ∧ J = I) 4 [(2, .int (nI i)), (1, .int (is_sum (I a) i)), (0, .ref a)] [] S S I := by
    intro n
    induction n with
    | zero =>
      intro i hi
      refine mm_iload_n dX7_sum_4 rfl rfl ?_
      refine mm_aload_n dX7_sum_5 rfl rfl ?_
      refine mm_alen (t := 0) dX7_sum_6 (by assumption) (by decide) _ rfl ?_
      refine mm_icmp_ge 22 dX7_sum_7 (by decide) (fun c_7 => ?_) (fun c_7 => absurd (nI_le (by omega) (by omega)) c_7)
      refine mm_iload_n dX7_sum_22 rfl rfl ?_
      refine mm_iret dX7_sum_23 rfl ?_
      exact ⟨rfl, _, rfl, by rw [show N = i by omega], rfl⟩
    | succ n ih =>
      intro i hi
      refine mm_iload_n dX7_sum_4 rfl rfl ?_
      refine mm_aload_n dX7_sum_5 rfl rfl ?_
      refine mm_alen (t := 0) dX7_sum_6 (by assumption) (by decide) _ rfl ?_
      refine mm_icmp_ge 22 dX7_sum_7 (by decide) (fun c_7 => absurd c_7 (nI_ge (by omega) (by omega))) (fun c_7 => ?_)
      refine mm_iload_n dX7_sum_10 rfl rfl ?_
      refine mm_aload_n dX7_sum_11 rfl rfl ?_
      refine mm_iload_n dX7_sum_12 rfl rfl ?_
      refine mm_iald dX7_sum_13 (by assumption) (vp_in_nI (n := i) (N := N) (by omega) (by omega)) ?_
      rw [nI_clamp (by omega)]
      refine mm_iadd dX7_sum_14 ?_
      refine mm_istore_n dX7_sum_15 rfl (Nat.le_of_ble_eq_true rfl) ?_
      refine mm_iinc 1 dX7_sum_16 rfl rfl (Nat.le_of_ble_eq_true rfl) ?_
      rw [nI_1]
      refine mm_goto 4 dX7_sum_19 (by decide) ?_
      exact mm_G.at (ih (i + 1) (by omega)) (mm_s1 rfl (mm_s1 rfl (mm_s1 rfl mm_s0)))
  refine mm_iconst 0 dX7_sum_0 rfl ?_
  refine mm_istore_n dX7_sum_1 rfl (Nat.le_of_ble_eq_true rfl) ?_
  refine mm_iconst 0 dX7_sum_2 rfl ?_
  refine mm_istore_n dX7_sum_3 rfl (Nat.le_of_ble_eq_true rfl) ?_
  exact mm_G.at (loop N 0 (by omega)) (mm_s1 rfl (mm_s1 rfl (mm_s1 rfl mm_s0)))
set_option maxRecDepth 100000 in
set_option maxHeartbeats 4000000 in
theorem c_copyRow {S : mm_S} {I : mm_I} {a b N : Nat} (ha : S.2.1 a = (9, N)) (hb : S.2.1 b = (9, N)) (hN : N < 1000) : mm_cv mX7_copyRow [.ref a, .ref b] S I (fun J => J = mm_row I b N (I a)) := by
  refine mm_cv.of okX7_copyRow rfl (Nat.le_of_ble_eq_true rfl) (lv := [(0, .ref a), (1, .ref b)]) rfl ?_
  have loop : ∀ (n i : Nat), i + n = N → mm_Gv mX7_copyRow (fun J => J = mm_row I b N (I a)) 2 [(2, .int (nI i)), (0, .ref a), (1, .ref b)] [] S S (mm_row I b i (I a)) := by
    intro n
    induction n with
    | zero =>
      intro i hi
      refine mm_iload_n dX7_copyRow_2 rfl rfl ?_
      refine mm_aload_n dX7_copyRow_3 rfl rfl ?_
      refine mm_alen (t := 0) dX7_copyRow_4 (by assumption) (by decide) _ rfl ?_
      refine mm_icmp_ge 26 dX7_copyRow_5 (by decide) (fun c_5 => ?_) (fun c_5 => absurd (nI_le (by omega) (by omega)) c_5)
      refine mm_vret dX7_copyRow_26 rfl ?_
      exact ⟨rfl, rfl, by rw [show N = i by omega]⟩
    | succ n ih =>
      intro i hi
      have hin : vp_in (nI i) N := vp_in_nI (by omega) (by omega)
      have hrd : mm_row I b i (I a) a i = I a i := by
        by_cases h : a = b
        · subst h; exact mm_row_out (Nat.le_refl _)
        · rw [mm_row_ne h]
      refine mm_iload_n dX7_copyRow_2 rfl rfl ?_
      refine mm_aload_n dX7_copyRow_3 rfl rfl ?_
      refine mm_alen (t := 0) dX7_copyRow_4 (by assumption) (by decide) _ rfl ?_
      refine mm_icmp_ge 26 dX7_copyRow_5 (by decide) (fun c_5 => absurd c_5 (nI_ge (by omega) (by omega))) (fun c_5 => ?_)
      refine mm_iload_n dX7_copyRow_8 rfl rfl ?_
      refine mm_aload_n dX7_copyRow_9 rfl rfl ?_
      refine mm_alen (t := 0) dX7_copyRow_10 (by assumption) (by decide) _ rfl ?_
      refine mm_icmp_ge 26 dX7_copyRow_11 (by decide) (fun c_11 => absurd c_11 (nI_ge (by omega) (by omega))) (fun c_11 => ?_)
      refine mm_aload_n dX7_copyRow_14 rfl rfl ?_
      refine mm_iload_n dX7_copyRow_15 rfl rfl ?_
      refine mm_aload_n dX7_copyRow_16 rfl rfl ?_
      refine mm_iload_n dX7_copyRow_17 rfl rfl ?_
      refine mm_iald dX7_copyRow_18 (by assumption) (by assumption) ?_
      rw [nI_clamp (by omega), hrd]
      refine mm_iast dX7_copyRow_19 (by assumption) (by assumption) ?_
      rw [nI_clamp (by omega), mm_row_S]
      refine mm_iinc 1 dX7_copyRow_20 rfl rfl (Nat.le_of_ble_eq_true rfl) ?_
      rw [nI_1]
      refine mm_goto 2 dX7_copyRow_23 (by decide) ?_
      exact mm_G.at (ih (i + 1) (by omega)) (mm_s1 rfl (mm_s1 rfl (mm_s1 rfl mm_s0)))
  refine mm_iconst 0 dX7_copyRow_0 rfl ?_
  refine mm_istore_n dX7_copyRow_1 rfl (Nat.le_of_ble_eq_true rfl) ?_
  refine mm_G.i (I' := mm_row I b 0 (I a)) mm_row_0.symm ?_
  exact mm_G.at (loop N 0 (by omega)) (mm_s1 rfl (mm_s1 rfl (mm_s1 rfl mm_s0)))
