/-! THE REFERENCE: the past, quotes, futures -/
/-- the states that are kept: n of them, the oldest first -/
def hist_r (I : mm_I) (m n : Nat) (hs : Nat → Nat → Int32) : Prop := I m 3 = nI n ∧ n ≤ 4 ∧ ∀ i, i < n → ∀ k, k < 316 → I (m + 2) (316 * i + k) = hs i k
def pushN (n : Nat) : Nat := if n = 4 then 4 else n + 1
def pushH (n : Nat) (hs : Nat → Nat → Int32) (s : Nat → Int32) : Nat → Nat → Int32 := if n = 4 then fun i => if i = 3 then s else hs (i + 1) else fun i => if i = n then s else hs i

set_option maxRecDepth 100000 in
set_option maxHeartbeats 4000000 in
theorem r_copies {S : mm_S} {I : mm_I} {a b : Nat} (ha : S.2.1 a = (9, 316)) (hb : S.2.1 b = (9, 316)) : mm_cv mX8_copies [.ref a, .ref b] S I (fun J => J = mm_row I b 316 (I a)) := by
  refine mm_cv.of okX8_copies rfl (Nat.le_of_ble_eq_true rfl) (lv := [(0, .ref a), (1, .ref b)]) rfl ?_
  have loop : ∀ (n i : Nat), i + n = 316 → mm_Gv mX8_copies (fun J => J = mm_row I b 316 (I a)) 2 [(2, .int (nI i)), (0, .ref a), (1, .ref b)] [] S S (mm_row I b i (I a)) := by
    intro n
    induction n with
    | zero =>
      intro i hi
      refine mm_iload_n dX8_copies_2 rfl rfl ?_
      refine mm_sipush 316 dX8_copies_3 rfl ?_
      refine mm_icmp_ge 21 dX8_copies_6 (by decide) (fun c_6 => ?_) (fun c_6 => absurd (nI_le (a := 316) (by omega) (by omega)) c_6)
      refine mm_vret dX8_copies_21 rfl ?_
      exact ⟨rfl, rfl, by rw [show 316 = i by omega]⟩
    | succ n ih =>
      intro i hi
      have hin : vp_in (nI i) 316 := vp_in_nI (by omega) (by omega)
      have hrd : mm_row I b i (I a) a i = I a i := by
        by_cases h : a = b
        · subst h; exact mm_row_out (Nat.le_refl _)
        · rw [mm_row_ne h]
      refine mm_iload_n dX8_copies_2 rfl rfl ?_
      refine mm_sipush 316 dX8_copies_3 rfl ?_
      refine mm_icmp_ge 21 dX8_copies_6 (by decide) (fun c_6 => absurd c_6 (nI_ge (b := 316) (by omega) (by omega))) (fun c_6 => ?_)
      refine mm_aload_n dX8_copies_9 rfl rfl ?_
      refine mm_iload_n dX8_copies_10 rfl rfl ?_
      refine mm_aload_n dX8_copies_11 rfl rfl ?_
      refine mm_iload_n dX8_copies_12 rfl rfl ?_
      refine mm_iald dX8_copies_13 (by assumption) (by assumption) ?_
      rw [nI_clamp (by omega), hrd]
      refine mm_iast dX8_copies_14 (by assumption) (by assumption) ?_
      rw [nI_clamp (by omega), mm_row_S]
      refine mm_iinc 1 dX8_copies_15 rfl rfl (Nat.le_of_ble_eq_true rfl) ?_
      rw [nI_1]
      refine mm_goto 2 dX8_copies_18 (by decide) ?_
      exact mm_G.at (ih (i + 1) (by omega)) (mm_s1 rfl (mm_s1 rfl (mm_s1 rfl mm_s0)))
  refine mm_iconst 0 dX8_copies_0 rfl ?_
  refine mm_istore_n dX8_copies_1 rfl (Nat.le_of_ble_eq_true rfl) ?_
  refine mm_G.i (I' := mm_row I b 0 (I a)) mm_row_0.symm ?_
  exact mm_G.at (loop 316 0 (by omega)) (mm_s1 rfl (mm_s1 rfl (mm_s1 rfl mm_s0)))
set_option maxRecDepth 100000 in
set_option maxHeartbeats 4000000 in
theorem r_changes1 {S : mm_S} {I : mm_I} {m : Nat} (hM : mm_ref S m) (h4 : ¬ I m 4 = 0) : mm_cv mX8_changes [.ref m] S I (fun J => J = I) := by
  obtain ⟨hk, hp0, hp1, hp2, hp5, hp7, hp15, hk1, hk2, hk3, hk4, hk5, hk6⟩ := hM
  refine mm_cv.of okX8_changes rfl (Nat.le_of_ble_eq_true rfl) (lv := [(0, .ref m)]) rfl ?_
  refine mm_aload_n dX8_changes_0 rfl rfl ?_
  refine mm_getI dX8_changes_1 fl_X8_28 rfl (by assumption) ?_
  refine mm_if_eq 8 dX8_changes_4 (by decide) (fun c_4 => absurd c_4 h4) (fun c_4 => ?_)
  refine mm_vret dX8_changes_7 rfl ?_
  exact ⟨rfl, rfl, rfl⟩
set_option maxRecDepth 100000 in
set_option maxHeartbeats 4000000 in
theorem r_changes0 {S : mm_S} {I : mm_I} {m n : Nat} {hs : Nat → Nat → Int32} (hM : mm_ref S m) (h4 : I m 4 = 0) (hh : hist_r I m n hs) : mm_cv mX8_changes [.ref m] S I (fun J => hist_r J m (pushN n) (pushH n hs (I (m + 1))) ∧ (∀ c, c ≠ m → c ≠ m + 2 → J c = I c) ∧ ∀ j, j ≠ 3 → J m j = I m j) := by
  obtain ⟨hk, hp0, hp1, hp2, hp5, hp7, hp15, hk1, hk2, hk3, hk4, hk5, hk6⟩ := hM
  obtain ⟨e1, e2, e3⟩ := hh
  -- the second loop, from p states kept (p < 4), those gs
  have last : ∀ (p : Nat) (gs : Nat → Nat → Int32) (I1 : mm_I), p < 4 → I1 m 3 = nI p → (∀ i, i < p → ∀ k, k < 316 → I1 (m + 2) (316 * i + k) = gs i k) → (∀ c, c ≠ m → c ≠ m + 2 → I1 c = I c) → (∀ j, j ≠ 3 → I1 m j = I m j) → pushN n = p + 1 → (∀ i, i < p + 1 → pushH n hs (I (m + 1)) i = if i = p then I (m + 1) else gs i) → mm_Gv mX8_changes (fun J => hist_r J m (pushN n) (pushH n hs (I (m + 1))) ∧ (∀ c, c ≠ m → c ≠ m + 2 → J c = I c) ∧ ∀ j, j ≠ 3 → J m j = I m j) 57 [(0, .ref m)] [] S S I1 := by
    intro p gs I1 hp f1 f2 f3 f4 f5 f6
    have loop : ∀ (t i : Nat) (I2 : mm_I), i + t = 316 → I2 m = I1 m → (∀ c, c ≠ m → c ≠ m + 2 → I2 c = I c) → (∀ q, q < p → ∀ k, k < 316 → I2 (m + 2) (316 * q + k) = gs q k) → (∀ k, k < i → I2 (m + 2) (316 * p + k) = I (m + 1) k) → mm_Gv mX8_changes (fun J => hist_r J m (pushN n) (pushH n hs (I (m + 1))) ∧ (∀ c, c ≠ m → c ≠ m + 2 → J c = I c) ∧ ∀ j, j ≠ 3 → J m j = I m j) 59 [(1, .int (nI i)), (0, .ref m)] [] S S I2 := by
      intro t
      induction t with
      | zero =>
        intro i I2 hi g1 g2 g3 g4
        have hi3 : i = 316 := by omega
        subst hi3
        refine mm_iload_n dX8_changes_59 rfl rfl ?_
        refine mm_sipush 316 dX8_changes_60 rfl ?_
        refine mm_icmp_ge 93 dX8_changes_63 (by decide) (fun c_63 => ?_) (fun c_63 => absurd (nI_le (a := 316) (by omega) (by omega)) c_63)
        refine mm_aload_n dX8_changes_93 rfl rfl ?_
        refine mm_dup dX8_changes_94 rfl ?_
        refine mm_getI dX8_changes_95 fl_X8_32 rfl (by assumption) ?_
        refine mm_tope (y := nI p) (by rw [g1]; exact f1) ?_
        refine mm_iconst 1 dX8_changes_98 rfl ?_
        refine mm_iadd dX8_changes_99 ?_
        refine mm_tope (y := nI (p + 1)) (nI_1 p) ?_
        refine mm_putI dX8_changes_100 fl_X8_32 rfl rfl (by assumption) ?_
        refine mm_vret dX8_changes_103 rfl ?_
        refine ⟨rfl, rfl, ⟨by rw [mm_wr_s, f5], by rw [f5]; omega, fun i hi k hk => ?_⟩, fun c h1 h2 => by rw [mm_wr_row h1]; exact g2 c h1 h2, fun j hj => by rw [mm_wr_k hj, g1]; exact f4 j hj⟩
        rw [f5] at hi
        rw [mm_wr_a (by omega), f6 i hi]
        by_cases e : i = p
        · subst e
          rw [if_pos rfl]
          exact g4 k hk
        · rw [if_neg e]
          exact g3 i (by omega) k hk
      | succ t ih =>
        intro i I2 hi g1 g2 g3 g4
        have hin1 : vp_in (nI i) 316 := vp_in_nI (by omega) (by omega)
        have hin2 : vp_in (nI (316 * p + i)) 1264 := vp_in_nI (by omega) (by omega)
        refine mm_iload_n dX8_changes_59 rfl rfl ?_
        refine mm_sipush 316 dX8_changes_60 rfl ?_
        refine mm_icmp_ge 93 dX8_changes_63 (by decide) (fun c_63 => absurd c_63 (nI_ge (b := 316) (by omega) (by omega))) (fun c_63 => ?_)
        refine mm_aload_n dX8_changes_66 rfl rfl ?_
        refine mm_getR dX8_changes_67 fl_X8_13 rfl (by assumption) (by assumption) ?_
        refine mm_sipush 316 dX8_changes_70 rfl ?_
        refine mm_aload_n dX8_changes_73 rfl rfl ?_
        refine mm_getI dX8_changes_74 fl_X8_32 rfl (by assumption) ?_
        refine mm_tope (y := nI p) (by rw [g1]; exact f1) ?_
        refine mm_imul dX8_changes_77 ?_
        refine mm_tope (y := nI (316 * p)) (pk_mul 316 p) ?_
        refine mm_iload_n dX8_changes_78 rfl rfl ?_
        refine mm_iadd dX8_changes_79 ?_
        refine mm_tope (y := nI (316 * p + i)) (nI_add _ _) ?_
        refine mm_aload_n dX8_changes_80 rfl rfl ?_
        refine mm_getR dX8_changes_81 fl_X8_7 rfl (by assumption) (by assumption) ?_
        refine mm_iload_n dX8_changes_84 rfl rfl ?_
        refine mm_iald dX8_changes_85 (by assumption) (by assumption) ?_
        rw [nI_clamp (by omega), g2 (m + 1) (by omega) (by omega)]
        refine mm_iast dX8_changes_86 (by assumption) (by assumption) ?_
        rw [nI_clamp (by omega)]
        refine mm_iinc 1 dX8_changes_87 rfl rfl (Nat.le_of_ble_eq_true rfl) ?_
        rw [nI_1]
        refine mm_goto 59 dX8_changes_90 (by decide) ?_
        exact mm_G.at (ih (i + 1) _ (by omega) (by rw [mm_wr_row (by omega)]; exact g1) (fun c h1 h2 => by rw [mm_wr_row h2]; exact g2 c h1 h2) (fun q hq k hk => by rw [mm_wr_k (by omega)]; exact g3 q hq k hk) (fun k hk => by
                    by_cases e : k = i
                    · subst e; exact mm_wr_s
                    · rw [mm_wr_k (by omega)]; exact g4 k (by omega))) (mm_s1 rfl (mm_s1 rfl mm_s0))
    refine mm_iconst 0 dX8_changes_57 rfl ?_
    refine mm_istore_n dX8_changes_58 rfl (Nat.le_of_ble_eq_true rfl) ?_
    exact mm_G.at (loop 316 0 I1 (by omega) rfl f3 f2 (fun k hk => absurd hk (Nat.not_lt_zero k))) (mm_s1 rfl (mm_s1 rfl mm_s0))
  refine mm_cv.of okX8_changes rfl (Nat.le_of_ble_eq_true rfl) (lv := [(0, .ref m)]) rfl ?_
  by_cases hn : n = 4
  · subst hn
    have loop : ∀ (t i : Nat) (I2 : mm_I), i + t = 948 → I2 m = I m → (∀ c, c ≠ m → c ≠ m + 2 → I2 c = I c) → (∀ k, k < i → I2 (m + 2) k = I (m + 2) (k + 316)) → (∀ k, i ≤ k → I2 (m + 2) k = I (m + 2) k) → mm_Gv mX8_changes (fun J => hist_r J m (pushN 4) (pushH 4 hs (I (m + 1))) ∧ (∀ c, c ≠ m → c ≠ m + 2 → J c = I c) ∧ ∀ j, j ≠ 3 → J m j = I m j) 18 [(1, .int (nI i)), (0, .ref m)] [] S S I2 := by
      intro t
      induction t with
      | zero =>
        intro i I2 hi g1 g2 g3 g4
        have hi3 : i = 948 := by omega
        subst hi3
        refine mm_iload_n dX8_changes_18 rfl rfl ?_
        refine mm_sipush 948 dX8_changes_19 rfl ?_
        refine mm_icmp_ge 47 dX8_changes_22 (by decide) (fun c_22 => ?_) (fun c_22 => absurd (nI_le (a := 948) (by omega) (by omega)) c_22)
        refine mm_aload_n dX8_changes_47 rfl rfl ?_
        refine mm_dup dX8_changes_48 rfl ?_
        refine mm_getI dX8_changes_49 fl_X8_32 rfl (by assumption) ?_
        refine mm_tope (y := nI 4) (by rw [g1]; exact e1) ?_
        refine mm_iconst 1 dX8_changes_52 rfl ?_
        refine mm_isub dX8_changes_53 ?_
        refine mm_tope (y := nI 3) (nI_m1 (n := 4) (by omega)) ?_
        refine mm_putI dX8_changes_54 fl_X8_32 rfl rfl (by assumption) ?_
        exact mm_G.at (last 3 (fun i => hs (i + 1)) _ (by omega) mm_wr_s (fun i hi k hk => by rw [mm_wr_a (by omega), g3 _ (by omega), show 316 * i + k + 316 = 316 * (i + 1) + k by omega]; exact e3 (i + 1) (by omega) k hk) (fun c h1 h2 => by rw [mm_wr_row h1]; exact g2 c h1 h2) (fun j hj => by rw [mm_wr_k hj, g1]) rfl (fun i hi => by
                    show (if _ then _ else _) = if _ then _ else _
                    by_cases e : i = 3
                    · rw [if_pos e]
                    · rw [if_neg e])) (mm_s1 rfl mm_s0)
      | succ t ih =>
        intro i I2 hi g1 g2 g3 g4
        have hin1 : vp_in (nI i) 1264 := vp_in_nI (by omega) (by omega)
        have hin2 : vp_in (nI (i + 316)) 1264 := vp_in_nI (by omega) (by omega)
        refine mm_iload_n dX8_changes_18 rfl rfl ?_
        refine mm_sipush 948 dX8_changes_19 rfl ?_
        refine mm_icmp_ge 47 dX8_changes_22 (by decide) (fun c_22 => absurd c_22 (nI_ge (b := 948) (by omega) (by omega))) (fun c_22 => ?_)
        refine mm_aload_n dX8_changes_25 rfl rfl ?_
        refine mm_getR dX8_changes_26 fl_X8_13 rfl (by assumption) (by assumption) ?_
        refine mm_iload_n dX8_changes_29 rfl rfl ?_
        refine mm_aload_n dX8_changes_30 rfl rfl ?_
        refine mm_getR dX8_changes_31 fl_X8_13 rfl (by assumption) (by assumption) ?_
        refine mm_iload_n dX8_changes_34 rfl rfl ?_
        refine mm_sipush 316 dX8_changes_35 rfl ?_
        refine mm_iadd dX8_changes_38 ?_
        refine mm_tope (y := nI (i + 316)) (nI_add i 316) ?_
        refine mm_iald dX8_changes_39 (by assumption) (by assumption) ?_
        rw [nI_clamp (by omega), g4 (i + 316) (by omega)]
        refine mm_iast dX8_changes_40 (by assumption) (by assumption) ?_
        rw [nI_clamp (by omega)]
        refine mm_iinc 1 dX8_changes_41 rfl rfl (Nat.le_of_ble_eq_true rfl) ?_
        rw [nI_1]
        refine mm_goto 18 dX8_changes_44 (by decide) ?_
        exact mm_G.at (ih (i + 1) _ (by omega) (by rw [mm_wr_row (by omega)]; exact g1) (fun c h1 h2 => by rw [mm_wr_row h2]; exact g2 c h1 h2) (fun k hk => by
                    by_cases e : k = i
                    · subst e; exact mm_wr_s
                    · rw [mm_wr_k e]; exact g3 k (by omega)) (fun k hk => by rw [mm_wr_k (by omega)]; exact g4 k (by omega))) (mm_s1 rfl (mm_s1 rfl mm_s0))
    refine mm_aload_n dX8_changes_0 rfl rfl ?_
    refine mm_getI dX8_changes_1 fl_X8_28 rfl (by assumption) ?_
    refine mm_if_eq 8 dX8_changes_4 (by decide) (fun c_4 => ?_) (fun c_4 => absurd h4 c_4)
    refine mm_aload_n dX8_changes_8 rfl rfl ?_
    refine mm_getI dX8_changes_9 fl_X8_32 rfl (by assumption) ?_
    refine mm_tope (y := nI 4) e1 ?_
    refine mm_iconst 4 dX8_changes_12 rfl ?_
    refine mm_icmp_ne 57 dX8_changes_13 (by decide) (fun c_13 => absurd (by decide) c_13) (fun c_13 => ?_)
    refine mm_iconst 0 dX8_changes_16 rfl ?_
    refine mm_istore_n dX8_changes_17 rfl (Nat.le_of_ble_eq_true rfl) ?_
    exact mm_G.at (loop 948 0 I (by omega) rfl (fun _ _ _ => rfl) (fun k hk => absurd hk (Nat.not_lt_zero k)) (fun _ _ => rfl)) (mm_s1 rfl (mm_s1 rfl mm_s0))
  · have hn4 : ¬ nI n = 4 := fun q => hn ((nI_eq (a := n) (b := 4) (by omega) (by omega)).mp q)
    refine mm_aload_n dX8_changes_0 rfl rfl ?_
    refine mm_getI dX8_changes_1 fl_X8_28 rfl (by assumption) ?_
    refine mm_if_eq 8 dX8_changes_4 (by decide) (fun c_4 => ?_) (fun c_4 => absurd h4 c_4)
    refine mm_aload_n dX8_changes_8 rfl rfl ?_
    refine mm_getI dX8_changes_9 fl_X8_32 rfl (by assumption) ?_
    refine mm_tope (y := nI n) e1 ?_
    refine mm_iconst 4 dX8_changes_12 rfl ?_
    refine mm_icmp_ne 57 dX8_changes_13 (by decide) (fun c_13 => ?_) (fun c_13 => absurd c_13 hn4)
    exact mm_G.at (last n hs I (by omega) e1 e3 (fun _ _ _ => rfl) (fun _ _ => rfl) (if_neg hn) (fun i hi => by unfold pushH; rw [if_neg hn])) (mm_s1 rfl mm_s0)
set_option maxRecDepth 100000 in
set_option maxHeartbeats 4000000 in
theorem r_tasted {S : mm_S} {I : mm_I} {m n : Nat} {w : Nat → Nat} (hM : mm_ref S m) (hw : rw_at I m n w) (hn : n ≤ 12) (hb : ∀ k, k < n → w k ≤ 2250) : mm_ci mX8_tasted [.ref m] S I (fun q J => q = (match w_find (fun k => decide (10 ≤ w k)) 0 n with | some k => nI k | none => -2000000004) ∧ J = I) := by
  obtain ⟨hk, hp0, hp1, hp2, hp5, hp7, hp15, hk1, hk2, hk3, hk4, hk5, hk6⟩ := hM
  obtain ⟨g1, g2⟩ := id hw
  refine mm_ci.of okX8_tasted rfl (Nat.le_of_ble_eq_true rfl) (lv := [(0, .ref m)]) rfl ?_
  have loop : ∀ (t i : Nat), i + t = n → w_find (fun k => decide (10 ≤ w k)) i t = w_find (fun k => decide (10 ≤ w k)) 0 n → mm_Gi mX8_tasted (fun q J => q = (match w_find (fun k => decide (10 ≤ w k)) 0 n with | some k => nI k | none => -2000000004) ∧ J = I) 2 [(1, .int (nI i)), (0, .ref m)] [] S S I := by
    intro t
    induction t with
    | zero =>
      intro i hi hf
      refine mm_iload_n dX8_tasted_2 rfl rfl ?_
      refine mm_aload_n dX8_tasted_3 rfl rfl ?_
      refine mm_getI dX8_tasted_4 fl_X8_47 rfl (by assumption) ?_
      refine mm_tope (y := nI n) g1 ?_
      refine mm_icmp_ge 29 dX8_tasted_7 (by decide) (fun c_7 => ?_) (fun c_7 => absurd (nI_le (by omega) (by omega)) c_7)
      refine mm_ldc dX8_tasted_29 ct_X8_57 ?_
      refine mm_iret dX8_tasted_31 rfl ?_
      exact ⟨rfl, _, rfl, by rw [← hf]; rfl, rfl⟩
    | succ t ih =>
      intro i hi hf
      have a3 := hb i (by omega)
      refine mm_iload_n dX8_tasted_2 rfl rfl ?_
      refine mm_aload_n dX8_tasted_3 rfl rfl ?_
      refine mm_getI dX8_tasted_4 fl_X8_47 rfl (by assumption) ?_
      refine mm_tope (y := nI n) g1 ?_
      refine mm_icmp_ge 29 dX8_tasted_7 (by decide) (fun c_7 => absurd c_7 (nI_ge (by omega) (by omega))) (fun c_7 => ?_)
      refine mm_aload_n dX8_tasted_10 rfl rfl ?_
      refine mm_getR dX8_tasted_11 fl_X8_22 rfl (by assumption) (by assumption) ?_
      refine mm_iload_n dX8_tasted_14 rfl rfl ?_
      refine mm_iald dX8_tasted_15 (by assumption) (vp_in_nI (by omega) (by omega)) ?_
      rw [nI_clamp (by omega), g2 i (by omega)]
      refine mm_bipush 10 dX8_tasted_16 rfl ?_
      refine mm_icmp_lt 23 dX8_tasted_18 (by decide) (fun c_18 => ?_) (fun c_18 => ?_)
      · skip
        have hlt : w i < 10 := Nat.not_le.mp fun q => nI_nlt (a := w i) (b := 10) q (by omega) c_18
        have hf2 : w_find (fun k => decide (10 ≤ w k)) (i + 1) t = w_find (fun k => decide (10 ≤ w k)) 0 n := by rw [← hf]; show _ = if _ then _ else _; rw [if_neg (by simp; omega)]
        refine mm_iinc 1 dX8_tasted_23 rfl rfl (Nat.le_of_ble_eq_true rfl) ?_
        rw [nI_1]
        refine mm_goto 2 dX8_tasted_26 (by decide) ?_
        exact mm_G.at (ih (i + 1) (by omega) hf2) (mm_s1 rfl (mm_s1 rfl mm_s0))
      · skip
        have hge : 10 ≤ w i := Nat.not_lt.mp fun q => c_18 (nI_lt (b := 10) q (by omega))
        have hf2 : w_find (fun k => decide (10 ≤ w k)) 0 n = some i := by rw [← hf]; show (if _ then _ else _) = _; rw [if_pos (by simp; omega)]
        refine mm_iload_n dX8_tasted_21 rfl rfl ?_
        refine mm_iret dX8_tasted_22 rfl ?_
        exact ⟨rfl, _, rfl, by rw [hf2], rfl⟩
  refine mm_iconst 0 dX8_tasted_0 rfl ?_
  refine mm_istore_n dX8_tasted_1 rfl (Nat.le_of_ble_eq_true rfl) ?_
  exact mm_G.at (loop n 0 (by omega) rfl) (mm_s1 rfl (mm_s1 rfl mm_s0))
set_option maxRecDepth 100000 in
set_option maxHeartbeats 4000000 in
theorem r_quote {S : mm_S} {I : mm_I} {m l sc t : Nat} (hM : mm_ref S m) (hl : l < 6) (h6 : I (m + 1) (11 + 20 * l) = nI sc) (h7 : I (m + 1) (12 + 20 * l) = nI t) (hs : sc ≤ 100 * t) (ht : t < 10000) : mm_ci mX8_quote [.ref m, .int (nI l)] S I (fun q J => q = nI (w_quote sc t) ∧ J = I) := by
  have hM0 := hM
  obtain ⟨hk, hp0, hp1, hp2, hp5, hp7, hp15, hk1, hk2, hk3, hk4, hk5, hk6⟩ := hM
  refine mm_ci.of okX8_quote rfl (Nat.le_of_ble_eq_true rfl) (lv := [(0, .ref m), (1, .int (nI l))]) rfl ?_
  rcases Nat.eq_zero_or_pos t with e | ht0
  · subst e
    have hq0 : w_quote sc 0 = 10 := by unfold w_quote; rw [Nat.div_zero]
    rw [hq0]
    refine mm_aload_n dX8_quote_0 rfl rfl ?_
    refine mm_iload_n dX8_quote_1 rfl rfl ?_
    refine mm_iconst 3 dX8_quote_2 rfl ?_
    refine mm_Vi (N := mX8_of) (ci := 8) (as := [_, _]) dX8_quote_3 lk_X8_36 okX8_of (by decide) rfl (by decide) rfl (by assumption) rfl (by decide) (r_of (f := 3) hM0 hl (by omega)) (fun r1 J1 hq => ?_)
    obtain ⟨rfl, hJ⟩ := hq
    subst J1
    rw [show 9 + 20 * l + 3 = 12 + 20 * l by omega, h7]
    refine mm_if_ne 13 dX8_quote_6 (by decide) (fun c_6 => absurd (by decide) c_6) (fun c_6 => ?_)
    refine mm_iconst 0 dX8_quote_9 rfl ?_
    refine mm_goto 26 dX8_quote_10 (by decide) ?_
    refine mm_istore_n dX8_quote_26 rfl (Nat.le_of_ble_eq_true rfl) ?_
    refine mm_bipush 10 dX8_quote_27 rfl ?_
    refine mm_iload_n dX8_quote_29 rfl rfl ?_
    refine mm_iload_n dX8_quote_30 rfl rfl ?_
    refine mm_imul dX8_quote_31 ?_
    refine mm_bipush 100 dX8_quote_32 rfl ?_
    refine mm_idiv dX8_quote_34 (by decide) ?_
    refine mm_iadd dX8_quote_35 ?_
    refine mm_iret dX8_quote_36 rfl ?_
    exact ⟨rfl, _, rfl, rfl, rfl⟩
  · have hm : sc / t ≤ 100 := Nat.div_le_of_le_mul (by rw [Nat.mul_comm]; exact hs)
    have hmm : sc / t * (sc / t) ≤ 100 * 100 := Nat.mul_le_mul hm hm
    have hne : ¬ nI t = 0 := nI_ne0 ht0 (by omega)
    refine mm_aload_n dX8_quote_0 rfl rfl ?_
    refine mm_iload_n dX8_quote_1 rfl rfl ?_
    refine mm_iconst 3 dX8_quote_2 rfl ?_
    refine mm_Vi (N := mX8_of) (ci := 8) (as := [_, _]) dX8_quote_3 lk_X8_36 okX8_of (by decide) rfl (by decide) rfl (by assumption) rfl (by decide) (r_of (f := 3) hM0 hl (by omega)) (fun r1 J1 hq => ?_)
    obtain ⟨rfl, hJ⟩ := hq
    subst J1
    rw [show 9 + 20 * l + 3 = 12 + 20 * l by omega, h7]
    refine mm_if_ne 13 dX8_quote_6 (by decide) (fun c_6 => ?_) (fun c_6 => absurd c_6 hne)
    refine mm_aload_n dX8_quote_13 rfl rfl ?_
    refine mm_iload_n dX8_quote_14 rfl rfl ?_
    refine mm_iconst 2 dX8_quote_15 rfl ?_
    refine mm_Vi (N := mX8_of) (ci := 8) (as := [_, _]) dX8_quote_16 lk_X8_36 okX8_of (by decide) rfl (by decide) rfl (by assumption) rfl (by decide) (r_of (f := 2) hM0 hl (by omega)) (fun r1 J1 hq => ?_)
    obtain ⟨rfl, hJ⟩ := hq
    subst J1
    rw [show 9 + 20 * l + 2 = 11 + 20 * l by omega, h6]
    refine mm_aload_n dX8_quote_19 rfl rfl ?_
    refine mm_iload_n dX8_quote_20 rfl rfl ?_
    refine mm_iconst 3 dX8_quote_21 rfl ?_
    refine mm_Vi (N := mX8_of) (ci := 8) (as := [_, _]) dX8_quote_22 lk_X8_36 okX8_of (by decide) rfl (by decide) rfl (by assumption) rfl (by first | decide | (simp [Value.category])) (r_of (f := 3) hM0 hl (by omega)) (fun r1 J1 hq => ?_)
    obtain ⟨rfl, hJ⟩ := hq
    subst J1
    rw [show 9 + 20 * l + 3 = 12 + 20 * l by omega, h7]
    refine mm_idiv dX8_quote_25 (by assumption) ?_
    refine mm_tope (y := nI (sc / t)) (pk_div (by omega) ht0 (by omega)) ?_
    refine mm_istore_n dX8_quote_26 rfl (Nat.le_of_ble_eq_true rfl) ?_
    refine mm_bipush 10 dX8_quote_27 rfl ?_
    refine mm_iload_n dX8_quote_29 rfl rfl ?_
    refine mm_iload_n dX8_quote_30 rfl rfl ?_
    refine mm_imul dX8_quote_31 ?_
    refine mm_tope (y := nI (sc / t * (sc / t))) (pk_mul _ _) ?_
    refine mm_bipush 100 dX8_quote_32 rfl ?_
    refine mm_idiv dX8_quote_34 (by decide) ?_
    refine mm_tope (y := nI (sc / t * (sc / t) / 100)) (pk_div (d := 100) (by omega) (by omega) (by omega)) ?_
    refine mm_iadd dX8_quote_35 ?_
    refine mm_tope (y := nI (w_quote sc t)) (nI_add 10 _) ?_
    refine mm_iret dX8_quote_36 rfl ?_
    exact ⟨rfl, _, rfl, rfl, rfl⟩
set_option maxRecDepth 100000 in
set_option maxHeartbeats 4000000 in
theorem r_expected {S : mm_S} {I : mm_I} {m l n r ho mg : Nat} {w : Nat → Nat} (hM : mm_ref S m) (hl : l < 6) (h0 : I (m + 1) (9 + 20 * l) = nI n) (hn : n ≤ 12) (hw : ∀ k, k < n → I (m + 1) (17 + 20 * l + k) = nI (w k)) (hr : r ≤ 50) (hb : ∀ k, k < n → w k ≤ 2250) (hpos : ∀ k, k < n → 0 < w k) (hrt : I (m + 1) (10 + 20 * l) = nI r) (h7 : I (m + 1) 7 = nI mg) (hmg : mg ≤ 100) (h8 : I (m + 1) 8 = nI ho) (hho : ho ≤ 36) : mm_ci mX8_expected [.ref m, .int (nI l)] S I (fun q J => q = nI (ws_sum (fun k => wb_it r ho (w k)) n / 90 * (100 - mg) / 100) ∧ r_fr I J m) := by
  have hM0 := hM
  obtain ⟨hk, hp0, hp1, hp2, hp5, hp7, hp15, hk1, hk2, hk3, hk4, hk5, hk6⟩ := hM
  have hs : ws_sum (fun k => wb_it r ho (w k)) n ≤ n * 2250 := ws_sum_le n (fun k hk => Nat.le_trans (wb_it_le _ _) (hb k hk))
  have hmul : ws_sum (fun k => wb_it r ho (w k)) n / 90 * (100 - mg) ≤ 300 * 100 := Nat.mul_le_mul (by omega) (by omega)
  refine mm_ci.of okX8_expected rfl (Nat.le_of_ble_eq_true rfl) (lv := [(0, .ref m), (1, .int (nI l))]) rfl ?_
  refine mm_aload_n dX8_expected_0 rfl rfl ?_
  refine mm_iload_n dX8_expected_1 rfl rfl ?_
  refine mm_Vv (N := mX8_loads) (ci := 8) (as := [_]) dX8_expected_2 lk_X8_62 okX8_loads (by decide) rfl (by decide) rfl (by assumption) rfl (by decide) (r_loads hM0 hl h0 hn hw) (fun J1 hq => ?_)
  obtain ⟨q1, q2⟩ := hq
  refine mm_aload_n dX8_expected_5 rfl rfl ?_
  refine mm_iload_n dX8_expected_6 rfl rfl ?_
  refine mm_aload_n dX8_expected_7 rfl rfl ?_
  refine mm_getR dX8_expected_8 fl_X8_7 rfl (by assumption) (by assumption) ?_
  refine mm_bipush 8 dX8_expected_11 rfl ?_
  refine mm_iald dX8_expected_13 (by assumption) (vp_in_nI (n := 8) (by omega) (by omega)) ?_
  refine mm_tope (y := nI ho) (by rw [q2.s]; exact h8) ?_
  refine mm_Vi (N := mX8_casesIn) (ci := 8) (as := [_, _]) dX8_expected_14 lk_X8_66 okX8_casesIn (by decide) rfl (by decide) rfl (by assumption) rfl (by decide) (r_casesIn hM0 hl q1 hn hr hb hpos (by rw [q2.s]; exact hrt) (by omega)) (fun r1 J2 hq => ?_)
  obtain ⟨rfl, _, q4⟩ := hq
  refine mm_bipush 100 dX8_expected_17 rfl ?_
  refine mm_aload_n dX8_expected_19 rfl rfl ?_
  refine mm_getR dX8_expected_20 fl_X8_7 rfl (by assumption) (by assumption) ?_
  refine mm_bipush 7 dX8_expected_23 rfl ?_
  refine mm_iald dX8_expected_25 (by assumption) (vp_in_nI (n := 7) (by omega) (by omega)) ?_
  refine mm_tope (y := nI mg) (by rw [(q2.tr q4).s]; exact h7) ?_
  refine mm_isub dX8_expected_26 ?_
  refine mm_tope (y := nI (100 - mg)) (pk_sub (a := 100) hmg) ?_
  refine mm_imul dX8_expected_27 ?_
  refine mm_tope (y := nI (ws_sum (fun k => wb_it r ho (w k)) n / 90 * (100 - mg))) (pk_mul _ _) ?_
  refine mm_bipush 100 dX8_expected_28 rfl ?_
  refine mm_idiv dX8_expected_30 (by decide) ?_
  refine mm_iret dX8_expected_31 rfl ?_
  exact ⟨rfl, _, rfl, pk_div (d := 100) (by omega) (by omega) (by omega), q2.tr q4⟩
def sp_enter (s : Nat → Int32) (k l b c p f : Int32) : Nat → Int32 := fun j => if 244 ≤ j ∧ j < 316 then w_book (fun i => s (244 + i)) k l b c p f (j - 244) else if j = 6 then nI (if sv s 6 < 12 then sv s 6 + 1 else 12) else s j
theorem mm_wr_a' {I : mm_I} {a k q : Nat} {x : Int32} (h : q ≠ a) : mm_wr I a k x q = I q := mm_wr_row h
set_option maxRecDepth 100000 in
set_option maxHeartbeats 4000000 in
theorem r_enters {S : mm_S} {I : mm_I} {m en : Nat} {k l b c p f : Int32} (hM : mm_ref S m) (h6 : I (m + 1) 6 = nI en) (hen : en ≤ 12) : mm_cv mX8_enters [.ref m, .int k, .int l, .int b, .int c, .int p, .int f] S I (fun J => J (m + 1) = sp_enter (I (m + 1)) k l b c p f ∧ ∀ q, q ≠ m + 1 → J q = I q) := by
  obtain ⟨hk, hp0, hp1, hp2, hp5, hp7, hp15, hk1, hk2, hk3, hk4, hk5, hk6⟩ := hM
  have hsv : sv (I (m + 1)) 6 = en := sv_of h6 (by omega)
  have hx : ∀ n, n < 316 → vp_in (nI n) 316 := fun n h => vp_in_nI h (by omega)
  refine mm_cv.of okX8_enters rfl (Nat.le_of_ble_eq_true rfl) (lv := [(0, .ref m), (1, .int k), (2, .int l), (3, .int b), (4, .int c), (5, .int p), (6, .int f)]) rfl ?_
  have loop : ∀ (t i : Nat) (I1 : mm_I), i = t + 249 → i ≤ 315 → (∀ j, I1 (m + 1) j = if i < j ∧ j < 316 then I (m + 1) (j - 6) else I (m + 1) j) → (∀ q, q ≠ m + 1 → I1 q = I q) → mm_Gv mX8_enters (fun J => J (m + 1) = sp_enter (I (m + 1)) k l b c p f ∧ ∀ q, q ≠ m + 1 → J q = I q) 5 [(7, .int (nI i)), (0, .ref m), (1, .int k), (2, .int l), (3, .int b), (4, .int c), (5, .int p), (6, .int f)] [] S S I1 := by
    intro t
    induction t with
    | zero =>
      intro i I1 hi hi2 g1 g2
      have hi5 : i = 249 := by omega
      subst hi5
      refine mm_iload dX8_enters_5 rfl ?_
      refine mm_sipush 250 dX8_enters_7 rfl ?_
      refine mm_icmp_lt 36 dX8_enters_10 (by decide) (fun c_10 => ?_) (fun c_10 => absurd (by decide) c_10)
      refine mm_aload_n dX8_enters_36 rfl rfl ?_
      refine mm_getR dX8_enters_37 fl_X8_7 rfl (by assumption) (by assumption) ?_
      refine mm_sipush 244 dX8_enters_40 rfl ?_
      refine mm_iload_n dX8_enters_43 rfl rfl ?_
      refine mm_iast dX8_enters_44 (by assumption) (hx 244 (by omega)) ?_
      refine mm_aload_n dX8_enters_45 rfl rfl ?_
      refine mm_getR dX8_enters_46 fl_X8_7 rfl (by assumption) (by assumption) ?_
      refine mm_sipush 245 dX8_enters_49 rfl ?_
      refine mm_iload_n dX8_enters_52 rfl rfl ?_
      refine mm_iast dX8_enters_53 (by assumption) (hx 245 (by omega)) ?_
      refine mm_aload_n dX8_enters_54 rfl rfl ?_
      refine mm_getR dX8_enters_55 fl_X8_7 rfl (by assumption) (by assumption) ?_
      refine mm_sipush 246 dX8_enters_58 rfl ?_
      refine mm_iload_n dX8_enters_61 rfl rfl ?_
      refine mm_iast dX8_enters_62 (by assumption) (hx 246 (by omega)) ?_
      refine mm_aload_n dX8_enters_63 rfl rfl ?_
      refine mm_getR dX8_enters_64 fl_X8_7 rfl (by assumption) (by assumption) ?_
      refine mm_sipush 247 dX8_enters_67 rfl ?_
      refine mm_iload dX8_enters_70 rfl ?_
      refine mm_iast dX8_enters_72 (by assumption) (hx 247 (by omega)) ?_
      refine mm_aload_n dX8_enters_73 rfl rfl ?_
      refine mm_getR dX8_enters_74 fl_X8_7 rfl (by assumption) (by assumption) ?_
      refine mm_sipush 248 dX8_enters_77 rfl ?_
      refine mm_iload dX8_enters_80 rfl ?_
      refine mm_iast dX8_enters_82 (by assumption) (hx 248 (by omega)) ?_
      refine mm_aload_n dX8_enters_83 rfl rfl ?_
      refine mm_getR dX8_enters_84 fl_X8_7 rfl (by assumption) (by assumption) ?_
      refine mm_sipush 249 dX8_enters_87 rfl ?_
      refine mm_iload dX8_enters_90 rfl ?_
      refine mm_iast dX8_enters_92 (by assumption) (hx 249 (by omega)) ?_
      refine mm_G.gen (P := fun J => (∀ j, J (m + 1) j = if 244 ≤ j ∧ j < 316 then w_book (fun i => I (m + 1) (244 + i)) k l b c p f (j - 244) else I (m + 1) j) ∧ ∀ q, q ≠ m + 1 → J q = I q) ⟨fun j => ?_, fun q hq => by rw [mm_wr_a' hq, mm_wr_a' hq, mm_wr_a' hq, mm_wr_a' hq, mm_wr_a' hq, mm_wr_a' hq, g2 q hq]⟩ (fun J1 hJ => ?_)
      · rw [show (249 : Int32).toNatClampNeg = 249 from rfl, show (248 : Int32).toNatClampNeg = 248 from rfl, show (247 : Int32).toNatClampNeg = 247 from rfl, show (246 : Int32).toNatClampNeg = 246 from rfl, show (245 : Int32).toNatClampNeg = 245 from rfl, show (244 : Int32).toNatClampNeg = 244 from rfl]
        by_cases hj : 244 ≤ j ∧ j < 316
        · rw [if_pos hj]
          by_cases hj6 : j < 250
          · unfold w_book
            rw [if_pos (by omega)]
            rcases (show j = 244 ∨ j = 245 ∨ j = 246 ∨ j = 247 ∨ j = 248 ∨ j = 249 by omega) with rfl | rfl | rfl | rfl | rfl | rfl <;> simp [mm_wr, w_six]
          · unfold w_book
            rw [if_neg (by omega), mm_wr_k (by omega), mm_wr_k (by omega), mm_wr_k (by omega), mm_wr_k (by omega), mm_wr_k (by omega), mm_wr_k (by omega), g1 j, if_pos (by omega)]
            show I (m + 1) (j - 6) = I (m + 1) (244 + (j - 244 - 6))
            rw [show 244 + (j - 244 - 6) = j - 6 by omega]
        · rw [if_neg hj, mm_wr_k (by omega), mm_wr_k (by omega), mm_wr_k (by omega), mm_wr_k (by omega), mm_wr_k (by omega), mm_wr_k (by omega), g1 j, if_neg (by omega)]
      obtain ⟨j1, j2⟩ := hJ
      have j6 : J1 (m + 1) 6 = nI en := by rw [j1 6, if_neg (by omega)]; exact h6
      refine mm_aload_n dX8_enters_93 rfl rfl ?_
      refine mm_getR dX8_enters_94 fl_X8_7 rfl (by assumption) (by assumption) ?_
      refine mm_bipush 6 dX8_enters_97 rfl ?_
      refine mm_aload_n dX8_enters_99 rfl rfl ?_
      refine mm_getR dX8_enters_100 fl_X8_7 rfl (by assumption) (by assumption) ?_
      refine mm_bipush 6 dX8_enters_103 rfl ?_
      refine mm_iald dX8_enters_105 (by assumption) (hx 6 (by omega)) ?_
      refine mm_tope (y := nI en) j6 ?_
      refine mm_bipush 12 dX8_enters_106 rfl ?_
      refine mm_icmp_ge 123 dX8_enters_108 (by decide) (fun c_108 => ?_) (fun c_108 => ?_)
      · skip
        have hge : ¬ en < 12 := fun q => absurd c_108 (nI_ge (b := 12) q (by omega))
        refine mm_bipush 12 dX8_enters_123 rfl ?_
        refine mm_iast dX8_enters_125 (by assumption) (hx 6 (by omega)) ?_
        refine mm_vret dX8_enters_126 rfl ?_
        refine ⟨rfl, rfl, funext fun j => ?_, fun q hq => by rw [mm_wr_row hq]; exact j2 q hq⟩
        unfold sp_enter
        rw [hsv, show (6 : Int32).toNatClampNeg = 6 from rfl]
        by_cases e : j = 6
        · subst e
          rw [if_neg (by omega), if_pos rfl]
          first
            | rw [if_pos hlt]; exact mm_wr_s
            | rw [if_neg hge]; exact mm_wr_s
        · rw [mm_wr_k e, j1 j]
          by_cases e2 : 244 ≤ j ∧ j < 316
          · rw [if_pos e2, if_pos e2]
          · rw [if_neg e2, if_neg e2, if_neg e]
      · skip
        have hlt : en < 12 := Nat.not_le.mp fun q => c_108 (nI_le (a := 12) q (by omega))
        refine mm_aload_n dX8_enters_111 rfl rfl ?_
        refine mm_getR dX8_enters_112 fl_X8_7 rfl (by assumption) (by assumption) ?_
        refine mm_bipush 6 dX8_enters_115 rfl ?_
        refine mm_iald dX8_enters_117 (by assumption) (hx 6 (by omega)) ?_
        refine mm_tope (y := nI en) j6 ?_
        refine mm_iconst 1 dX8_enters_118 rfl ?_
        refine mm_iadd dX8_enters_119 ?_
        refine mm_tope (y := nI (en + 1)) (nI_1 en) ?_
        refine mm_goto 125 dX8_enters_120 (by decide) ?_
        refine mm_iast dX8_enters_125 (by assumption) (hx 6 (by omega)) ?_
        refine mm_vret dX8_enters_126 rfl ?_
        refine ⟨rfl, rfl, funext fun j => ?_, fun q hq => by rw [mm_wr_row hq]; exact j2 q hq⟩
        unfold sp_enter
        rw [hsv, show (6 : Int32).toNatClampNeg = 6 from rfl]
        by_cases e : j = 6
        · subst e
          rw [if_neg (by omega), if_pos rfl]
          first
            | rw [if_pos hlt]; exact mm_wr_s
            | rw [if_neg hge]; exact mm_wr_s
        · rw [mm_wr_k e, j1 j]
          by_cases e2 : 244 ≤ j ∧ j < 316
          · rw [if_pos e2, if_pos e2]
          · rw [if_neg e2, if_neg e2, if_neg e]
    | succ t ih =>
      intro i I1 hi hi2 g1 g2
      have hin1 : vp_in (nI i) 316 := vp_in_nI (by omega) (by omega)
      have hin2 : vp_in (nI (i - 6)) 316 := vp_in_nI (by omega) (by omega)
      refine mm_iload dX8_enters_5 rfl ?_
      refine mm_sipush 250 dX8_enters_7 rfl ?_
      refine mm_icmp_lt 36 dX8_enters_10 (by decide) (fun c_10 => absurd c_10 (fun q => absurd q (Int32.not_lt.mpr (nI_le (a := 250) (by omega) (by omega))))) (fun c_10 => ?_)
      refine mm_aload_n dX8_enters_13 rfl rfl ?_
      refine mm_getR dX8_enters_14 fl_X8_7 rfl (by assumption) (by assumption) ?_
      refine mm_iload dX8_enters_17 rfl ?_
      refine mm_aload_n dX8_enters_19 rfl rfl ?_
      refine mm_getR dX8_enters_20 fl_X8_7 rfl (by assumption) (by assumption) ?_
      refine mm_iload dX8_enters_23 rfl ?_
      refine mm_bipush 6 dX8_enters_25 rfl ?_
      refine mm_isub dX8_enters_27 ?_
      refine mm_tope (y := nI (i - 6)) (pk_sub (b := 6) (by omega)) ?_
      refine mm_iald dX8_enters_28 (by assumption) (by assumption) ?_
      rw [nI_clamp (by omega)]
      refine mm_iast dX8_enters_29 (by assumption) (by assumption) ?_
      rw [nI_clamp (by omega)]
      refine mm_iinc (-1) dX8_enters_30 rfl rfl (Nat.le_of_ble_eq_true rfl) ?_
      rw [show nI i + -1 = nI (i - 1) from by rw [← Int32.sub_eq_add_neg]; exact nI_m1 (by omega)]
      refine mm_goto 5 dX8_enters_33 (by decide) ?_
      exact mm_G.at (ih (i - 1) _ (by omega) (by omega) (fun j => by
                by_cases e1 : j = i
                · subst e1
                  rw [mm_wr_s, g1 (j - 6), if_neg (by omega), if_pos (by omega)]
                · rw [mm_wr_k e1, g1 j]
                  by_cases e2 : i < j ∧ j < 316
                  · rw [if_pos e2, if_pos (by omega)]
                  · rw [if_neg e2, if_neg (by omega)]) (fun q hq => by rw [mm_wr_row hq]; exact g2 q hq)) (mm_s1 rfl (mm_s1 rfl (mm_s1 rfl (mm_s1 rfl (mm_s1 rfl (mm_s1 rfl (mm_s1 rfl (mm_s1 rfl mm_s0))))))))
  refine mm_sipush 315 dX8_enters_0 rfl ?_
  refine mm_istore dX8_enters_3 (Nat.le_of_ble_eq_true rfl) ?_
  exact mm_G.at (loop 66 315 I rfl (by omega) (fun j => by rw [if_neg (by omega)]) (fun _ _ => rfl)) (mm_s1 rfl (mm_s1 rfl (mm_s1 rfl (mm_s1 rfl (mm_s1 rfl (mm_s1 rfl (mm_s1 rfl (mm_s1 rfl mm_s0))))))))
set_option maxRecDepth 100000 in
set_option maxHeartbeats 4000000 in
theorem r_goes {S : mm_S} {I : mm_I} {m b l h p k : Nat} (hM : mm_ref S m) (hb : b < 6) (hl : l < 6) (h3 : I (m + 1) (136 + 18 * b + 3 * l) = nI h) (h4 : I (m + 1) (137 + 18 * b + 3 * l) = nI p) (hkh : k ≤ h) (hh0 : 0 < h) (hh : h ≤ 1000) (hpp : p ≤ 1000000) : mm_ci mX8_goes [.ref m, .int (nI b), .int (nI l), .int (nI k)] S I (fun q J => q = nI (p * k / h) ∧ J = mm_wr (mm_wr I (m + 1) (137 + 18 * b + 3 * l) (nI (p - p * k / h))) (m + 1) (136 + 18 * b + 3 * l) (nI (h - k))) := by
  have hM0 := hM
  obtain ⟨hk, hp0, hp1, hp2, hp5, hp7, hp15, hk1, hk2, hk3, hk4, hk5, hk6⟩ := hM
  have hpk : p * k ≤ 1000000 * 1000 := Nat.mul_le_mul hpp (by omega)
  have hle := w_share_le (p := p) hkh
  have e1 : 136 + 18 * b + 3 * l + 1 = 137 + 18 * b + 3 * l := by omega
  have hin1 : vp_in (nI (137 + 18 * b + 3 * l)) 316 := vp_in_nI (by omega) (by omega)
  have hin0 : vp_in (nI (136 + 18 * b + 3 * l)) 316 := vp_in_nI (by omega) (by omega)
  have hne : ¬ nI h = 0 := nI_ne0 hh0 (by omega)
  refine mm_ci.of okX8_goes rfl (Nat.le_of_ble_eq_true rfl) (lv := [(0, .ref m), (1, .int (nI b)), (2, .int (nI l)), (3, .int (nI k))]) rfl ?_
  refine mm_aload_n dX8_goes_0 rfl rfl ?_
  refine mm_getR dX8_goes_1 fl_X8_7 rfl (by assumption) (by assumption) ?_
  refine mm_iload_n dX8_goes_4 rfl rfl ?_
  refine mm_iload_n dX8_goes_5 rfl rfl ?_
  refine mm_iconst 1 dX8_goes_6 rfl ?_
  refine mm_Si (N := mX8_hold) (as := [_, _, _]) dX8_goes_7 lk_X8_40 okX8_hold (by decide) rfl rfl (by first | decide | (simp [Value.category])) (r_hold (f := 1)) (fun r1 J1 hq => ?_)
  obtain ⟨rfl, hJ⟩ := hq
  subst J1
  rw [e1]
  refine mm_iald dX8_goes_10 (by assumption) (by assumption) ?_
  rw [nI_clamp (by omega), h4]
  refine mm_iload_n dX8_goes_11 rfl rfl ?_
  refine mm_imul dX8_goes_12 ?_
  refine mm_tope (y := nI (p * k)) (pk_mul _ _) ?_
  refine mm_aload_n dX8_goes_13 rfl rfl ?_
  refine mm_iload_n dX8_goes_14 rfl rfl ?_
  refine mm_iload_n dX8_goes_15 rfl rfl ?_
  refine mm_Vi (N := mX8_holds) (ci := 8) (as := [_, _]) dX8_goes_16 lk_X8_44 okX8_holds (by decide) rfl (by decide) rfl (by assumption) rfl (by first | decide | (simp [Value.category])) (r_holds hM0 hb hl) (fun r2 J1 hq => ?_)
  obtain ⟨rfl, hJ⟩ := hq
  subst J1
  rw [h3]
  refine mm_idiv dX8_goes_19 (by assumption) ?_
  refine mm_tope (y := nI (p * k / h)) (pk_div (by omega) hh0 (by omega)) ?_
  refine mm_istore dX8_goes_20 (Nat.le_of_ble_eq_true rfl) ?_
  refine mm_aload_n dX8_goes_22 rfl rfl ?_
  refine mm_getR dX8_goes_23 fl_X8_7 rfl (by assumption) (by assumption) ?_
  refine mm_iload_n dX8_goes_26 rfl rfl ?_
  refine mm_iload_n dX8_goes_27 rfl rfl ?_
  refine mm_iconst 1 dX8_goes_28 rfl ?_
  refine mm_Si (N := mX8_hold) (as := [_, _, _]) dX8_goes_29 lk_X8_40 okX8_hold (by decide) rfl rfl (by first | decide | (simp [Value.category])) (r_hold (f := 1)) (fun r3 J1 hq => ?_)
  obtain ⟨rfl, hJ⟩ := hq
  subst J1
  rw [e1]
  refine mm_dup2 dX8_goes_32 rfl rfl ?_
  refine mm_iald dX8_goes_33 (by assumption) (by assumption) ?_
  rw [nI_clamp (by omega), h4]
  refine mm_iload dX8_goes_34 rfl ?_
  refine mm_isub dX8_goes_36 ?_
  refine mm_tope (y := nI (p - p * k / h)) (pk_sub hle) ?_
  refine mm_iast dX8_goes_37 (by assumption) (by assumption) ?_
  rw [nI_clamp (by omega)]
  refine mm_aload_n dX8_goes_38 rfl rfl ?_
  refine mm_getR dX8_goes_39 fl_X8_7 rfl (by assumption) (by assumption) ?_
  refine mm_iload_n dX8_goes_42 rfl rfl ?_
  refine mm_iload_n dX8_goes_43 rfl rfl ?_
  refine mm_iconst 0 dX8_goes_44 rfl ?_
  refine mm_Si (N := mX8_hold) (as := [_, _, _]) dX8_goes_45 lk_X8_40 okX8_hold (by decide) rfl rfl (by first | decide | (simp [Value.category])) (r_hold (f := 0)) (fun r4 J1 hq => ?_)
  obtain ⟨rfl, hJ⟩ := hq
  subst J1
  rw [show 136 + 18 * b + 3 * l + 0 = 136 + 18 * b + 3 * l from rfl]
  refine mm_dup2 dX8_goes_48 rfl rfl ?_
  refine mm_iald dX8_goes_49 (by assumption) (by assumption) ?_
  rw [nI_clamp (by omega), mm_wr_k (by omega), h3]
  refine mm_iload_n dX8_goes_50 rfl rfl ?_
  refine mm_isub dX8_goes_51 ?_
  refine mm_tope (y := nI (h - k)) (pk_sub hkh) ?_
  refine mm_iast dX8_goes_52 (by assumption) (by assumption) ?_
  rw [nI_clamp (by omega)]
  refine mm_iload dX8_goes_53 rfl ?_
  refine mm_iret dX8_goes_55 rfl ?_
  exact ⟨rfl, _, rfl, rfl, rfl⟩
set_option maxRecDepth 100000 in
set_option maxHeartbeats 4000000 in
theorem r_wouldCut {S : mm_S} {I : mm_I} {m b l h c al : Nat} (hM : mm_ref S m) (hb : b < 6) (hl : l < 6) (h3 : I (m + 1) (136 + 18 * b + 3 * l) = nI h) (hh : h ≤ 1000) (hc : c ≤ 1000) (hal : al ≤ 1000) : mm_ci mX8_wouldCut [.ref m, .int (nI b), .int (nI l), .int (nI c), .int (nI al)] S I (fun q J => q = nI (w_cut h c al) ∧ J = I) := by
  have hM0 := hM
  obtain ⟨hk, hp0, hp1, hp2, hp5, hp7, hp15, hk1, hk2, hk3, hk4, hk5, hk6⟩ := hM
  have hhc : h * c ≤ 1000 * 1000 := Nat.mul_le_mul hh hc
  refine mm_ci.of okX8_wouldCut rfl (Nat.le_of_ble_eq_true rfl) (lv := [(0, .ref m), (1, .int (nI b)), (2, .int (nI l)), (3, .int (nI c)), (4, .int (nI al))]) rfl ?_
  refine mm_iload dX8_wouldCut_0 rfl ?_
  refine mm_iload_n dX8_wouldCut_2 rfl rfl ?_
  refine mm_icmp_le 27 dX8_wouldCut_3 (by decide) (fun c_3 => ?_) (fun c_3 => ?_)
  · skip
    have hle : al ≤ c := Nat.not_lt.mp fun q => absurd c_3 (nI_ge q (by omega))
    refine mm_iconst 0 dX8_wouldCut_27 rfl ?_
    refine mm_iret dX8_wouldCut_28 rfl ?_
    first
      | exact ⟨rfl, _, rfl, by unfold w_cut; rw [if_neg (Nat.not_le.mpr hlt)]; exact pk_sub hle, rfl⟩
      | exact ⟨rfl, _, rfl, by unfold w_cut; rw [if_pos hle]; rfl, rfl⟩
  · skip
    have hlt : c < al := Nat.not_le.mp fun q => c_3 (nI_le q (by omega))
    have hle := w_share_le (p := h) (Nat.le_of_lt hlt)
    have hne : ¬ nI al = 0 := nI_ne0 (by omega) (by omega)
    refine mm_aload_n dX8_wouldCut_6 rfl rfl ?_
    refine mm_iload_n dX8_wouldCut_7 rfl rfl ?_
    refine mm_iload_n dX8_wouldCut_8 rfl rfl ?_
    refine mm_Vi (N := mX8_holds) (ci := 8) (as := [_, _]) dX8_wouldCut_9 lk_X8_44 okX8_holds (by decide) rfl (by decide) rfl (by assumption) rfl (by decide) (r_holds hM0 hb hl) (fun r1 J1 hq => ?_)
    obtain ⟨rfl, hJ⟩ := hq
    subst J1
    rw [h3]
    refine mm_aload_n dX8_wouldCut_12 rfl rfl ?_
    refine mm_iload_n dX8_wouldCut_13 rfl rfl ?_
    refine mm_iload_n dX8_wouldCut_14 rfl rfl ?_
    refine mm_Vi (N := mX8_holds) (ci := 8) (as := [_, _]) dX8_wouldCut_15 lk_X8_44 okX8_holds (by decide) rfl (by decide) rfl (by assumption) rfl (by first | decide | (simp [Value.category])) (r_holds hM0 hb hl) (fun r2 J1 hq => ?_)
    obtain ⟨rfl, hJ⟩ := hq
    subst J1
    rw [h3]
    refine mm_iload_n dX8_wouldCut_18 rfl rfl ?_
    refine mm_imul dX8_wouldCut_19 ?_
    refine mm_tope (y := nI (h * c)) (pk_mul _ _) ?_
    refine mm_iload dX8_wouldCut_20 rfl ?_
    refine mm_idiv dX8_wouldCut_22 (by assumption) ?_
    refine mm_tope (y := nI (h * c / al)) (pk_div (by omega) (by omega) (by omega)) ?_
    refine mm_isub dX8_wouldCut_23 ?_
    refine mm_goto 28 dX8_wouldCut_24 (by decide) ?_
    refine mm_iret dX8_wouldCut_28 rfl ?_
    first
      | exact ⟨rfl, _, rfl, by unfold w_cut; rw [if_neg (Nat.not_le.mpr hlt)]; exact pk_sub hle, rfl⟩
      | exact ⟨rfl, _, rfl, by unfold w_cut; rw [if_pos hle]; rfl, rfl⟩
def sp_comes (s : Nat → Int32) (b l : Nat) (c p : Int32) (f : Nat) : Nat → Int32 :=
  let s1 := upd s (136 + 18 * b + 3 * l) (s (136 + 18 * b + 3 * l) + c)
  let s2 := upd s1 (137 + 18 * b + 3 * l) (s (137 + 18 * b + 3 * l) + c * p)
  let s3 := upd s2 (129 + b) (s (129 + b) - c * p)
  upd s3 (129 + f) (s3 (129 + f) + c * p)
set_option maxRecDepth 100000 in
set_option maxHeartbeats 4000000 in
theorem r_comes {S : mm_S} {I : mm_I} {m b l f : Nat} {c p : Int32} (hM : mm_ref S m) (hb : b < 6) (hl : l < 6) (hf : f ≤ 6) : mm_cv mX8_comes [.ref m, .int (nI b), .int (nI l), .int c, .int p, .int (nI f)] S I (fun J => J (m + 1) = sp_comes (I (m + 1)) b l c p f ∧ ∀ q, q ≠ m + 1 → J q = I q) := by
  obtain ⟨hk, hp0, hp1, hp2, hp5, hp7, hp15, hk1, hk2, hk3, hk4, hk5, hk6⟩ := hM
  have e1 : 136 + 18 * b + 3 * l + 1 = 137 + 18 * b + 3 * l := by omega
  have hx : ∀ n, n < 316 → vp_in (nI n) 316 := fun n h => vp_in_nI h (by omega)
  have hin1 := hx (137 + 18 * b + 3 * l) (by omega)
  have hin0 := hx (136 + 18 * b + 3 * l) (by omega)
  have hin2 := hx (129 + b) (by omega)
  have hin3 := hx (129 + f) (by omega)
  refine mm_cv.of okX8_comes rfl (Nat.le_of_ble_eq_true rfl) (lv := [(0, .ref m), (1, .int (nI b)), (2, .int (nI l)), (3, .int c), (4, .int p), (5, .int (nI f))]) rfl ?_
  refine mm_aload_n dX8_comes_0 rfl rfl ?_
  refine mm_getR dX8_comes_1 fl_X8_7 rfl (by assumption) (by assumption) ?_
  refine mm_iload_n dX8_comes_4 rfl rfl ?_
  refine mm_iload_n dX8_comes_5 rfl rfl ?_
  refine mm_iconst 0 dX8_comes_6 rfl ?_
  refine mm_Si (N := mX8_hold) (as := [_, _, _]) dX8_comes_7 lk_X8_40 okX8_hold (by decide) rfl rfl (by first | decide | (simp [Value.category])) (r_hold (f := 0)) (fun r1 J1 hq => ?_)
  obtain ⟨rfl, hJ⟩ := hq
  subst J1
  refine mm_dup2 dX8_comes_10 rfl rfl ?_
  refine mm_iald dX8_comes_11 (by assumption) (by assumption) ?_
  rw [nI_clamp (by omega)]
  refine mm_iload_n dX8_comes_12 rfl rfl ?_
  refine mm_iadd dX8_comes_13 ?_
  refine mm_iast dX8_comes_14 (by assumption) (by assumption) ?_
  rw [nI_clamp (by omega)]
  refine mm_aload_n dX8_comes_15 rfl rfl ?_
  refine mm_getR dX8_comes_16 fl_X8_7 rfl (by assumption) (by assumption) ?_
  refine mm_iload_n dX8_comes_19 rfl rfl ?_
  refine mm_iload_n dX8_comes_20 rfl rfl ?_
  refine mm_iconst 1 dX8_comes_21 rfl ?_
  refine mm_Si (N := mX8_hold) (as := [_, _, _]) dX8_comes_22 lk_X8_40 okX8_hold (by decide) rfl rfl (by first | decide | (simp [Value.category])) (r_hold (f := 1)) (fun r3 J1 hq => ?_)
  obtain ⟨rfl, hJ⟩ := hq
  subst J1
  rw [e1]
  refine mm_dup2 dX8_comes_25 rfl rfl ?_
  refine mm_iald dX8_comes_26 (by assumption) (by assumption) ?_
  rw [nI_clamp (by omega), mm_wr_k (by omega)]
  refine mm_iload_n dX8_comes_27 rfl rfl ?_
  refine mm_iload dX8_comes_28 rfl ?_
  refine mm_imul dX8_comes_30 ?_
  refine mm_iadd dX8_comes_31 ?_
  refine mm_iast dX8_comes_32 (by assumption) (by assumption) ?_
  rw [nI_clamp (by omega)]
  refine mm_aload_n dX8_comes_33 rfl rfl ?_
  refine mm_getR dX8_comes_34 fl_X8_7 rfl (by assumption) (by assumption) ?_
  refine mm_sipush 129 dX8_comes_37 rfl ?_
  refine mm_iload_n dX8_comes_40 rfl rfl ?_
  refine mm_iadd dX8_comes_41 ?_
  refine mm_tope (y := nI (129 + b)) (nI_add 129 b) ?_
  refine mm_dup2 dX8_comes_42 rfl rfl ?_
  refine mm_iald dX8_comes_43 (by assumption) (by assumption) ?_
  rw [nI_clamp (by omega), mm_wr_k (by omega), mm_wr_k (by omega)]
  refine mm_iload_n dX8_comes_44 rfl rfl ?_
  refine mm_iload dX8_comes_45 rfl ?_
  refine mm_imul dX8_comes_47 ?_
  refine mm_isub dX8_comes_48 ?_
  refine mm_iast dX8_comes_49 (by assumption) (by assumption) ?_
  rw [nI_clamp (by omega)]
  refine mm_aload_n dX8_comes_50 rfl rfl ?_
  refine mm_getR dX8_comes_51 fl_X8_7 rfl (by assumption) (by assumption) ?_
  refine mm_sipush 129 dX8_comes_54 rfl ?_
  refine mm_iload dX8_comes_57 rfl ?_
  refine mm_iadd dX8_comes_59 ?_
  refine mm_tope (y := nI (129 + f)) (nI_add 129 f) ?_
  refine mm_dup2 dX8_comes_60 rfl rfl ?_
  refine mm_iald dX8_comes_61 (by assumption) (by assumption) ?_
  rw [nI_clamp (by omega)]
  refine mm_iload_n dX8_comes_62 rfl rfl ?_
  refine mm_iload dX8_comes_63 rfl ?_
  refine mm_imul dX8_comes_65 ?_
  refine mm_iadd dX8_comes_66 ?_
  refine mm_iast dX8_comes_67 (by assumption) (by assumption) ?_
  rw [nI_clamp (by omega)]
  refine mm_vret dX8_comes_68 rfl ?_
  refine ⟨rfl, rfl, ?_, fun q hq => by rw [mm_wr_row hq, mm_wr_row hq, mm_wr_row hq, mm_wr_row hq]⟩
  rw [mm_wr_upd, mm_wr_upd, mm_wr_upd, mm_wr_upd]
  rfl
set_option maxRecDepth 100000 in
set_option maxHeartbeats 4000000 in
theorem r_areCases {S : mm_S} {I : mm_I} {c p : Int32} : mm_ci mX8_areCases [.int c, .int p] S I (fun q J => q = (if (1 ≤ c ∧ c ≤ 999) ∧ (0 ≤ p ∧ p ≤ 999) then 1 else 0) ∧ J = I) := by
  refine mm_ci.of okX8_areCases rfl (Nat.le_of_ble_eq_true rfl) (lv := [(0, .int c), (1, .int p)]) rfl ?_
  refine mm_iload_n dX8_areCases_0 rfl rfl ?_
  refine mm_iconst 1 dX8_areCases_1 rfl ?_
  refine mm_sipush 999 dX8_areCases_2 rfl ?_
  refine mm_Si (N := mX8_in) (as := [_, _, _]) dX8_areCases_5 lk_X8_72 okX8_in (by decide) rfl rfl (by decide) r_in (fun r1 J1 hq => ?_)
  obtain ⟨rfl, hJ⟩ := hq
  subst J1
  refine mm_if_eq 26 dX8_areCases_8 (by decide) (fun c_8 => ?_) (fun c_8 => ?_)
  · skip
    have n1 : ¬ (1 ≤ c ∧ c ≤ 999) := fun q => by rw [if_pos q] at c_8; exact absurd c_8 (by decide)
    refine mm_iconst 0 dX8_areCases_26 rfl ?_
    refine mm_zret dX8_areCases_27 rfl (by first | exact Or.inl rfl | exact Or.inr rfl | assumption) ?_
    exact ⟨rfl, _, rfl, by first | exact (if_neg (fun q => n1 q.1)).symm | exact (if_neg (fun q => n2 q.2)).symm | exact (if_pos ⟨y1, y2⟩).symm, rfl⟩
  · skip
    have y1 : 1 ≤ c ∧ c ≤ 999 := Classical.byContradiction fun q => c_8 (if_neg q)
    refine mm_iload_n dX8_areCases_11 rfl rfl ?_
    refine mm_iconst 0 dX8_areCases_12 rfl ?_
    refine mm_sipush 999 dX8_areCases_13 rfl ?_
    refine mm_Si (N := mX8_in) (as := [_, _, _]) dX8_areCases_16 lk_X8_72 okX8_in (by decide) rfl rfl (by decide) r_in (fun r2 J1 hq => ?_)
    obtain ⟨rfl, hJ⟩ := hq
    subst J1
    refine mm_if_eq 26 dX8_areCases_19 (by decide) (fun c_19 => ?_) (fun c_19 => ?_)
    · skip
      have n2 : ¬ (0 ≤ p ∧ p ≤ 999) := fun q => by rw [if_pos q] at c_19; exact absurd c_19 (by decide)
      refine mm_iconst 0 dX8_areCases_26 rfl ?_
      refine mm_zret dX8_areCases_27 rfl (by first | exact Or.inl rfl | exact Or.inr rfl | assumption) ?_
      exact ⟨rfl, _, rfl, by first | exact (if_neg (fun q => n1 q.1)).symm | exact (if_neg (fun q => n2 q.2)).symm | exact (if_pos ⟨y1, y2⟩).symm, rfl⟩
    · skip
      have y2 : 0 ≤ p ∧ p ≤ 999 := Classical.byContradiction fun q => c_19 (if_neg q)
      refine mm_iconst 1 dX8_areCases_22 rfl ?_
      refine mm_goto 27 dX8_areCases_23 (by decide) ?_
      refine mm_zret dX8_areCases_27 rfl (by first | exact Or.inl rfl | exact Or.inr rfl | assumption) ?_
      exact ⟨rfl, _, rfl, by first | exact (if_neg (fun q => n1 q.1)).symm | exact (if_neg (fun q => n2 q.2)).symm | exact (if_pos ⟨y1, y2⟩).symm, rfl⟩
