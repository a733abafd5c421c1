/-! THE REFERENCE: months, topping, tasting, the past -/
set_option maxRecDepth 100000 in
set_option maxHeartbeats 4000000 in
theorem r_month {S : mm_S} {I : mm_I} {m n r : Nat} {w : Nat → Nat} (hM : mm_ref S m) (hw : rw_at I m n w) (hn : n ≤ 12) (hr : r ≤ 50) (hb : ∀ k, k < n → w k ≤ 2250) (hpos : ∀ k, k < n → 0 < w k) : mm_ci mX8_month [.ref m, .int (nI r)] S I (fun q J => q = nI (ws_sum (fun k => w k - wb_step r (w k)) n) ∧ rw_at J m n (fun k => wb_step r (w k)) ∧ r_fr I J m) := by
  have hM0 := hM
  obtain ⟨hk, hp0, hp1, hp2, hp5, hp7, hp15, hk1, hk2, hk3, hk4, hk5, hk6⟩ := hM
  obtain ⟨g1, g2⟩ := id hw
  have hps : ∀ k, k < n → 0 < wb_step r (w k) := fun k hk => wb_step_pos hr (hpos k hk)
  refine mm_ci.of okX8_month rfl (Nat.le_of_ble_eq_true rfl) (lv := [(0, .ref m), (1, .int (nI r))]) rfl ?_
  have loop : ∀ (t i : Nat) (I1 : mm_I), i + t = n → I1 m 8 = nI n → (∀ k, k < i → I1 (m + 5) k = nI (wb_step r (w k))) → (∀ k, i ≤ k → k < n → I1 (m + 5) k = nI (w k)) → r_fr I I1 m → mm_Gi mX8_month (fun q J => q = nI (ws_sum (fun k => w k - wb_step r (w k)) n) ∧ rw_at J m n (fun k => wb_step r (w k)) ∧ r_fr I J m) 4 [(3, .int (nI i)), (2, .int (nI (ws_sum (fun k => w k - wb_step r (w k)) i))), (0, .ref m), (1, .int (nI r))] [] S S I1 := by
    intro t
    induction t with
    | zero =>
      intro i I1 hi j1 j2 j3 j4
      have hin : i = n := by omega
      subst hin
      refine mm_iload_n dX8_month_4 rfl rfl ?_
      refine mm_aload_n dX8_month_5 rfl rfl ?_
      refine mm_getI dX8_month_6 fl_X8_47 rfl (by assumption) ?_
      refine mm_tope (y := nI i) j1 ?_
      refine mm_icmp_ge 71 dX8_month_9 (by decide) (fun c_9 => ?_) (fun c_9 => absurd (nI_le (by omega) (by omega)) c_9)
      refine mm_aload_n dX8_month_71 rfl rfl ?_
      refine mm_Vv (N := mX8_leaves) (ci := 8) (as := []) dX8_month_72 lk_X8_50 okX8_leaves (by decide) rfl (by decide) rfl (by assumption) rfl (by decide) (r_leaves (w := fun k => wb_step r (w k)) (n := i) hM0 ⟨j1, j2⟩ hn (fun k hk => Nat.le_trans wb_step_le (hb k hk))) (fun J1 hq => ?_)
      obtain ⟨⟨q1, q2⟩, q3⟩ := hq
      rw [lvN_pos i hps] at q1 q2
      refine mm_iload_n dX8_month_75 rfl rfl ?_
      refine mm_iret dX8_month_76 rfl ?_
      exact ⟨rfl, _, rfl, rfl, ⟨q1, fun k hk => by rw [q2 k hk, lvF_pos i hps k hk]⟩, j4.tr q3⟩
    | succ t ih =>
      intro i I1 hi j1 j2 j3 j4
      have hbi := hb i (by omega)
      have hmul : w i * r ≤ 2250 * 50 := Nat.mul_le_mul hbi hr
      have hl := wb_loss_le (w := w i) hr
      have e0 := j3 i (Nat.le_refl i) (by omega)
      have hin : vp_in (nI i) 12 := vp_in_nI (by omega) (by omega)
      refine mm_iload_n dX8_month_4 rfl rfl ?_
      refine mm_aload_n dX8_month_5 rfl rfl ?_
      refine mm_getI dX8_month_6 fl_X8_47 rfl (by assumption) ?_
      refine mm_tope (y := nI n) j1 ?_
      refine mm_icmp_ge 71 dX8_month_9 (by decide) (fun c_9 => absurd c_9 (nI_ge (by omega) (by omega))) (fun c_9 => ?_)
      refine mm_aload_n dX8_month_12 rfl rfl ?_
      refine mm_getR dX8_month_13 fl_X8_22 rfl (by assumption) (by assumption) ?_
      refine mm_iload_n dX8_month_16 rfl rfl ?_
      refine mm_iald dX8_month_17 (by assumption) (by assumption) ?_
      rw [nI_clamp (by omega), e0]
      refine mm_iload_n dX8_month_18 rfl rfl ?_
      refine mm_imul dX8_month_19 ?_
      refine mm_tope (y := nI (w i * r)) (pk_mul _ _) ?_
      refine mm_sipush 1000 dX8_month_20 rfl ?_
      refine mm_idiv dX8_month_23 (by decide) ?_
      refine mm_tope (y := nI (w i * r / 1000)) (pk_div (d := 1000) (by omega) (by omega) (by omega)) ?_
      refine mm_istore dX8_month_24 (Nat.le_of_ble_eq_true rfl) ?_
      refine mm_aload_n dX8_month_26 rfl rfl ?_
      refine mm_getR dX8_month_27 fl_X8_22 rfl (by assumption) (by assumption) ?_
      refine mm_iload_n dX8_month_30 rfl rfl ?_
      refine mm_iald dX8_month_31 (by assumption) (by assumption) ?_
      rw [nI_clamp (by omega), e0]
      refine mm_sipush 1800 dX8_month_32 rfl ?_
      refine mm_icmp_ge 45 dX8_month_35 (by decide) (fun c_35 => ?_) (fun c_35 => ?_)
      · skip
        have hlt : ¬ w i < 1800 := fun q => absurd c_35 (nI_ge (b := 1800) q (by omega))
        have hst : wb_step r (w i) = w i - w i * r / 1000 := by unfold wb_step; rw [if_neg hlt]
        have hby : w i - wb_step r (w i) = w i * r / 1000 := by omega
        refine mm_iload dX8_month_45 rfl ?_
        refine mm_tope (y := nI (w i - wb_step r (w i))) (by rw [hby]) ?_
        refine mm_istore dX8_month_47 (Nat.le_of_ble_eq_true rfl) ?_
        refine mm_aload_n dX8_month_49 rfl rfl ?_
        refine mm_getR dX8_month_50 fl_X8_22 rfl (by assumption) (by assumption) ?_
        refine mm_iload_n dX8_month_53 rfl rfl ?_
        refine mm_dup2 dX8_month_54 rfl rfl ?_
        refine mm_iald dX8_month_55 (by assumption) (by assumption) ?_
        rw [nI_clamp (by omega), e0]
        refine mm_iload dX8_month_56 rfl ?_
        refine mm_isub dX8_month_58 ?_
        refine mm_tope (y := nI (wb_step r (w i))) (by rw [pk_sub (by omega)]; congr 1; omega) ?_
        refine mm_iast dX8_month_59 (by assumption) (by assumption) ?_
        rw [nI_clamp (by omega)]
        refine mm_iload_n dX8_month_60 rfl rfl ?_
        refine mm_iload dX8_month_61 rfl ?_
        refine mm_iadd dX8_month_63 ?_
        refine mm_tope (y := nI (ws_sum (fun k => w k - wb_step r (w k)) (i + 1))) (nI_add _ _) ?_
        refine mm_istore_n dX8_month_64 rfl (Nat.le_of_ble_eq_true rfl) ?_
        refine mm_iinc 1 dX8_month_65 rfl rfl (Nat.le_of_ble_eq_true rfl) ?_
        rw [nI_1]
        refine mm_goto 4 dX8_month_68 (by decide) ?_
        exact mm_G.at (ih (i + 1) _ (by omega) (by rw [mm_wr_a (by omega)]; exact j1) (fun k hk => by
                  by_cases e : k = i
                  · subst e; exact mm_wr_s
                  · rw [mm_wr_k e]; exact j2 k (by omega)) (fun k h1 h2 => by rw [mm_wr_k (by omega)]; exact j3 k (by omega) h2) j4.w) (mm_s1 rfl (mm_s1 rfl (mm_s1 rfl (mm_s1 rfl mm_s0))))
      · skip
        have hlt : w i < 1800 := Nat.not_le.mp fun q => c_35 (nI_le (a := 1800) q (by omega))
        have hst : wb_step r (w i) = w i - 2 * (w i * r / 1000) := by unfold wb_step; rw [if_pos hlt]
        have hby : w i - wb_step r (w i) = 2 * (w i * r / 1000) := by omega
        refine mm_iconst 2 dX8_month_38 rfl ?_
        refine mm_iload dX8_month_39 rfl ?_
        refine mm_imul dX8_month_41 ?_
        refine mm_tope (y := nI (w i - wb_step r (w i))) (by rw [hby]; exact pk_mul 2 _) ?_
        refine mm_goto 47 dX8_month_42 (by decide) ?_
        refine mm_istore dX8_month_47 (Nat.le_of_ble_eq_true rfl) ?_
        refine mm_aload_n dX8_month_49 rfl rfl ?_
        refine mm_getR dX8_month_50 fl_X8_22 rfl (by assumption) (by assumption) ?_
        refine mm_iload_n dX8_month_53 rfl rfl ?_
        refine mm_dup2 dX8_month_54 rfl rfl ?_
        refine mm_iald dX8_month_55 (by assumption) (by assumption) ?_
        rw [nI_clamp (by omega), e0]
        refine mm_iload dX8_month_56 rfl ?_
        refine mm_isub dX8_month_58 ?_
        refine mm_tope (y := nI (wb_step r (w i))) (by rw [pk_sub (by omega)]; congr 1; omega) ?_
        refine mm_iast dX8_month_59 (by assumption) (by assumption) ?_
        rw [nI_clamp (by omega)]
        refine mm_iload_n dX8_month_60 rfl rfl ?_
        refine mm_iload dX8_month_61 rfl ?_
        refine mm_iadd dX8_month_63 ?_
        refine mm_tope (y := nI (ws_sum (fun k => w k - wb_step r (w k)) (i + 1))) (nI_add _ _) ?_
        refine mm_istore_n dX8_month_64 rfl (Nat.le_of_ble_eq_true rfl) ?_
        refine mm_iinc 1 dX8_month_65 rfl rfl (Nat.le_of_ble_eq_true rfl) ?_
        rw [nI_1]
        refine mm_goto 4 dX8_month_68 (by decide) ?_
        exact mm_G.at (ih (i + 1) _ (by omega) (by rw [mm_wr_a (by omega)]; exact j1) (fun k hk => by
                  by_cases e : k = i
                  · subst e; exact mm_wr_s
                  · rw [mm_wr_k e]; exact j2 k (by omega)) (fun k h1 h2 => by rw [mm_wr_k (by omega)]; exact j3 k (by omega) h2) j4.w) (mm_s1 rfl (mm_s1 rfl (mm_s1 rfl (mm_s1 rfl mm_s0))))
  refine mm_iconst 0 dX8_month_0 rfl ?_
  refine mm_istore_n dX8_month_1 rfl (Nat.le_of_ble_eq_true rfl) ?_
  refine mm_iconst 0 dX8_month_2 rfl ?_
  refine mm_istore_n dX8_month_3 rfl (Nat.le_of_ble_eq_true rfl) ?_
  exact mm_G.at (loop n 0 I (by omega) g1 (fun k hk => absurd hk (Nat.not_lt_zero k)) (fun k _ hk => g2 k hk) r_fr.rf) (mm_s1 rfl (mm_s1 rfl (mm_s1 rfl (mm_s1 rfl mm_s0))))
set_option maxRecDepth 100000 in
set_option maxHeartbeats 4000000 in
theorem r_casesIn {S : mm_S} {I : mm_I} {m n r l t : Nat} {w : Nat → Nat} (hM : mm_ref S m) (hl : l < 6) (hw : rw_at I m n w) (hn : n ≤ 12) (hr : r ≤ 50) (hb : ∀ k, k < n → w k ≤ 2250) (hpos : ∀ k, k < n → 0 < w k) (hrt : I (m + 1) (10 + 20 * l) = nI r) (ht : t < 1000) : mm_ci mX8_casesIn [.ref m, .int (nI l), .int (nI t)] S I (fun q J => q = nI (ws_sum (fun k => wb_it r t (w k)) n / 90) ∧ rw_at J m n (fun k => wb_it r t (w k)) ∧ r_fr I J m) := by
  have hM0 := hM
  obtain ⟨hk, hp0, hp1, hp2, hp5, hp7, hp15, hk1, hk2, hk3, hk4, hk5, hk6⟩ := hM
  obtain ⟨g1, g2⟩ := id hw
  refine mm_ci.of okX8_casesIn rfl (Nat.le_of_ble_eq_true rfl) (lv := [(0, .ref m), (1, .int (nI l)), (2, .int (nI t))]) rfl ?_
  have loop : ∀ (u i L : Nat) (v : Nat → Nat) (I1 : mm_I), i + u = t → L ≤ 27000 * i → rw_at I1 m n v → (∀ k, k < n → v k ≤ 2250) → (∀ k, k < n → 0 < v k) → (∀ k, k < n → wb_it r u (v k) = wb_it r t (w k)) → r_fr I I1 m → mm_Gi mX8_casesIn (fun q J => q = nI (ws_sum (fun k => wb_it r t (w k)) n / 90) ∧ rw_at J m n (fun k => wb_it r t (w k)) ∧ r_fr I J m) 5 [(4, .int (nI i)), (3, .int (nI L)), (0, .ref m), (1, .int (nI l)), (2, .int (nI t))] [] S S I1 := by
    intro u
    induction u with
    | zero =>
      intro i L v I1 hi hL j1 j2 j2' j3 j4
      have hs : ws_sum v n = ws_sum (fun k => wb_it r t (w k)) n := ws_sum_congr n j3
      have hs2 : ws_sum v n ≤ n * 2250 := ws_sum_le n j2
      refine mm_iload dX8_casesIn_5 rfl ?_
      refine mm_iload_n dX8_casesIn_7 rfl rfl ?_
      refine mm_icmp_ge 30 dX8_casesIn_8 (by decide) (fun c_8 => ?_) (fun c_8 => absurd (nI_le (by omega) (by omega)) c_8)
      refine mm_iload_n dX8_casesIn_30 rfl rfl ?_
      refine mm_if_ge 39 dX8_casesIn_31 (by decide) (fun c_31 => ?_) (fun c_31 => absurd (nI_pos' (by omega)) c_31)
      refine mm_aload_n dX8_casesIn_39 rfl rfl ?_
      refine mm_Vi (N := mX8_all) (ci := 8) (as := []) dX8_casesIn_40 lk_X8_58 okX8_all (by decide) rfl (by decide) rfl (by assumption) rfl (by decide) (r_all hM0 j1 hn) (fun r1 J1 hq => ?_)
      obtain ⟨rfl, hJ⟩ := hq
      subst J1
      refine mm_bipush 90 dX8_casesIn_43 rfl ?_
      refine mm_idiv dX8_casesIn_45 (by decide) ?_
      refine mm_iret dX8_casesIn_46 rfl ?_
      exact ⟨rfl, _, rfl, by rw [hs]; exact pk_div (d := 90) (by omega) (by omega) (by omega), ⟨j1.1, fun k hk => by rw [j1.2 k hk]; exact congrArg nI (j3 k hk)⟩, j4⟩
    | succ u ih =>
      intro i L v I1 hi hL j1 j2 j2' j3 j4
      have hs2 : ws_sum (fun k => v k - wb_step r (v k)) n ≤ n * 2250 := ws_sum_le n (fun k hk => Nat.le_trans (Nat.sub_le _ _) (j2 k hk))
      refine mm_iload dX8_casesIn_5 rfl ?_
      refine mm_iload_n dX8_casesIn_7 rfl rfl ?_
      refine mm_icmp_ge 30 dX8_casesIn_8 (by decide) (fun c_8 => absurd c_8 (nI_ge (by omega) (by omega))) (fun c_8 => ?_)
      refine mm_iload_n dX8_casesIn_11 rfl rfl ?_
      refine mm_aload_n dX8_casesIn_12 rfl rfl ?_
      refine mm_aload_n dX8_casesIn_13 rfl rfl ?_
      refine mm_iload_n dX8_casesIn_14 rfl rfl ?_
      refine mm_iconst 1 dX8_casesIn_15 rfl ?_
      refine mm_Vi (N := mX8_of) (ci := 8) (as := [_, _]) dX8_casesIn_16 lk_X8_36 okX8_of (by decide) rfl (by decide) rfl (by assumption) rfl (by first | decide | (simp [Value.category])) (r_of (f := 1) hM0 hl (by omega)) (fun r1 J1 hq => ?_)
      obtain ⟨rfl, hJ⟩ := hq
      subst J1
      rw [show 9 + 20 * l + 1 = 10 + 20 * l by omega, j4.s, hrt]
      refine mm_Vi (N := mX8_month) (ci := 8) (as := [_]) dX8_casesIn_19 lk_X8_53 okX8_month (by decide) rfl (by decide) rfl (by assumption) rfl (by first | decide | (simp [Value.category])) (r_month hM0 j1 hn hr j2 j2') (fun r2 J2 hq => ?_)
      obtain ⟨rfl, q2, q3⟩ := hq
      refine mm_iadd dX8_casesIn_22 ?_
      refine mm_tope (y := nI (L + ws_sum (fun k => v k - wb_step r (v k)) n)) (nI_add _ _) ?_
      refine mm_istore_n dX8_casesIn_23 rfl (Nat.le_of_ble_eq_true rfl) ?_
      refine mm_iinc 1 dX8_casesIn_24 rfl rfl (Nat.le_of_ble_eq_true rfl) ?_
      rw [nI_1]
      refine mm_goto 5 dX8_casesIn_27 (by decide) ?_
      exact mm_G.at (ih (i + 1) _ _ _ (by omega) (by omega) q2 (fun k hk => Nat.le_trans wb_step_le (j2 k hk)) (fun k hk => wb_step_pos hr (j2' k hk)) j3 (j4.tr q3)) (mm_s1 rfl (mm_s1 rfl (mm_s1 rfl (mm_s1 rfl (mm_s1 rfl mm_s0)))))
  refine mm_iconst 0 dX8_casesIn_0 rfl ?_
  refine mm_istore_n dX8_casesIn_1 rfl (Nat.le_of_ble_eq_true rfl) ?_
  refine mm_iconst 0 dX8_casesIn_2 rfl ?_
  refine mm_istore dX8_casesIn_3 (Nat.le_of_ble_eq_true rfl) ?_
  exact mm_G.at (loop t 0 0 w I (by omega) (by omega) hw hb hpos (fun k hk => rfl) r_fr.rf) (mm_s1 rfl (mm_s1 rfl (mm_s1 rfl (mm_s1 rfl (mm_s1 rfl mm_s0)))))
set_option maxRecDepth 100000 in
set_option maxHeartbeats 4000000 in
theorem r_needy {S : mm_S} {I : mm_I} {m n : Nat} {w : Nat → Nat} (hM : mm_ref S m) (hw : rw_at I m n w) (hn : n ≤ 12) (hb : ∀ k, k < n → w k ≤ 2250) : mm_ci mX8_needy [.ref m] S I (fun q J => q = (match w_find (fun k => decide (w k < 2250)) 0 (n - 1) with | some k => nI k | none => -2000000004) ∧ J = I) := by
  obtain ⟨hk, hp0, hp1, hp2, hp5, hp7, hp15, hk1, hk2, hk3, hk4, hk5, hk6⟩ := hM
  obtain ⟨g1, g2⟩ := id hw
  refine mm_ci.of okX8_needy rfl (Nat.le_of_ble_eq_true rfl) (lv := [(0, .ref m)]) rfl ?_
  have loop : ∀ (t i : Nat), i + t = n - 1 → w_find (fun k => decide (w k < 2250)) i t = w_find (fun k => decide (w k < 2250)) 0 (n - 1) → mm_Gi mX8_needy (fun q J => q = (match w_find (fun k => decide (w k < 2250)) 0 (n - 1) with | some k => nI k | none => -2000000004) ∧ J = I) 2 [(1, .int (nI i)), (0, .ref m)] [] S S I := by
    intro t
    induction t with
    | zero =>
      intro i hi hf
      refine mm_iload_n dX8_needy_2 rfl rfl ?_
      refine mm_aload_n dX8_needy_3 rfl rfl ?_
      refine mm_getI dX8_needy_4 fl_X8_47 rfl (by assumption) ?_
      refine mm_tope (y := nI n) g1 ?_
      refine mm_iconst 1 dX8_needy_7 rfl ?_
      refine mm_isub dX8_needy_8 ?_
      refine mm_icmp_ge 32 dX8_needy_9 (by decide) (fun c_9 => ?_) (fun c_9 => absurd ((nI_m1_le (by omega) (by omega)).mpr (by omega)) c_9)
      refine mm_ldc dX8_needy_32 ct_X8_57 ?_
      refine mm_iret dX8_needy_34 rfl ?_
      exact ⟨rfl, _, rfl, by rw [← hf]; rfl, rfl⟩
    | succ t ih =>
      intro i hi hf
      have a3 := hb i (by omega)
      refine mm_iload_n dX8_needy_2 rfl rfl ?_
      refine mm_aload_n dX8_needy_3 rfl rfl ?_
      refine mm_getI dX8_needy_4 fl_X8_47 rfl (by assumption) ?_
      refine mm_tope (y := nI n) g1 ?_
      refine mm_iconst 1 dX8_needy_7 rfl ?_
      refine mm_isub dX8_needy_8 ?_
      refine mm_icmp_ge 32 dX8_needy_9 (by decide) (fun c_9 => absurd c_9 (fun q => absurd ((nI_m1_le (by omega) (by omega)).mp q) (by omega))) (fun c_9 => ?_)
      refine mm_aload_n dX8_needy_12 rfl rfl ?_
      refine mm_getR dX8_needy_13 fl_X8_22 rfl (by assumption) (by assumption) ?_
      refine mm_iload_n dX8_needy_16 rfl rfl ?_
      refine mm_iald dX8_needy_17 (by assumption) (vp_in_nI (by omega) (by omega)) ?_
      rw [nI_clamp (by omega), g2 i (by omega)]
      refine mm_sipush 2250 dX8_needy_18 rfl ?_
      refine mm_icmp_ge 26 dX8_needy_21 (by decide) (fun c_21 => ?_) (fun c_21 => ?_)
      · skip
        have hge : ¬ w i < 2250 := fun q => absurd c_21 (nI_ge (b := 2250) q (by omega))
        have hf2 : w_find (fun k => decide (w k < 2250)) (i + 1) t = w_find (fun k => decide (w k < 2250)) 0 (n - 1) := by rw [← hf]; show _ = if _ then _ else _; rw [if_neg (by simp; omega)]
        refine mm_iinc 1 dX8_needy_26 rfl rfl (Nat.le_of_ble_eq_true rfl) ?_
        rw [nI_1]
        refine mm_goto 2 dX8_needy_29 (by decide) ?_
        exact mm_G.at (ih (i + 1) (by omega) hf2) (mm_s1 rfl (mm_s1 rfl mm_s0))
      · skip
        have hlt : w i < 2250 := Nat.not_le.mp fun q => c_21 (nI_le (a := 2250) q (by omega))
        have hf2 : w_find (fun k => decide (w k < 2250)) 0 (n - 1) = some i := by rw [← hf]; show (if _ then _ else _) = _; rw [if_pos (by simp; omega)]
        refine mm_iload_n dX8_needy_24 rfl rfl ?_
        refine mm_iret dX8_needy_25 rfl ?_
        exact ⟨rfl, _, rfl, by rw [hf2], rfl⟩
  refine mm_iconst 0 dX8_needy_0 rfl ?_
  refine mm_istore_n dX8_needy_1 rfl (Nat.le_of_ble_eq_true rfl) ?_
  exact mm_G.at (loop (n - 1) 0 (by omega) rfl) (mm_s1 rfl (mm_s1 rfl mm_s0))
set_option maxRecDepth 100000 in
set_option maxHeartbeats 4000000 in
theorem r_tops {S : mm_S} {I : mm_I} {m n r : Nat} {w : Nat → Nat} (hM : mm_ref S m) (hw : rw_at I m n w) (ho : wv_ok n r w) : mm_cv mX8_tops [.ref m] S I (fun J => rw_at J m (w_top 24 0 n w).1 (w_top 24 0 n w).2 ∧ wv_ok (w_top 24 0 n w).1 r (w_top 24 0 n w).2 ∧ r_fr I J m) := by
  have hM0 := hM
  obtain ⟨hk, hp0, hp1, hp2, hp5, hp7, hp15, hk1, hk2, hk3, hk4, hk5, hk6⟩ := hM
  refine mm_cv.of okX8_tops rfl (Nat.le_of_ble_eq_true rfl) (lv := [(0, .ref m)]) rfl ?_
  have loop : ∀ (F f x b : Nat) (v : Nat → Nat) (I1 : mm_I), f < F → rw_at I1 m b v → wv_ok b r v → (∀ j, j < x → ¬ v j < 2250) → w_top f x b v = w_top 24 0 n w → 2 * b ≤ f + x → r_fr I I1 m → mm_Gv mX8_tops (fun J => rw_at J m (w_top 24 0 n w).1 (w_top 24 0 n w).2 ∧ wv_ok (w_top 24 0 n w).1 r (w_top 24 0 n w).2 ∧ r_fr I J m) 0 [(0, .ref m)] [] S S I1 := by
    intro F
    induction F with
    | zero =>
      intro f x b v I1 hF
      exact absurd hF (Nat.not_lt_zero f)
    | succ F ih =>
      intro f x b v I1 hF hv hov hfull hf hfu hfr
      obtain ⟨g1, g2⟩ := id hv
      obtain ⟨o1, o2, o3, o4, o5⟩ := id hov
      cases hnd : w_find (fun k => decide (v k < 2250)) 0 (b - 1) with
      | none =>
        have hno := w_find_none hnd
        have hend := w_top_none hov f x (fun j h1 h2 => by have := hno j (Nat.zero_le j) (by omega); simpa using this)
        rw [hend] at hf
        refine mm_aload_n dX8_tops_0 rfl rfl ?_
        refine mm_Vi (N := mX8_needy) (ci := 8) (as := []) dX8_tops_1 lk_X8_69 okX8_needy (by decide) rfl (by decide) rfl (by assumption) rfl (by decide) (r_needy hM0 hv o1 (fun k _ => o3 k)) (fun r1 J1 hq => ?_)
        obtain ⟨rfl, hJ⟩ := hq
        subst J1
        rw [hnd]
        refine mm_if_lt 85 dX8_tops_4 (by decide) (fun c_4 => ?_) (fun c_4 => absurd (by decide) c_4)
        refine mm_vret dX8_tops_85 rfl ?_
        exact ⟨rfl, rfl, by rw [← hf]; exact hv, by rw [← hf]; exact hov, hfr⟩
      | some k =>
        obtain ⟨k1, k2, k3, k4⟩ := w_find_some hnd
        have k3 : v k < 2250 := by simpa using k3
        have hkb : k + 1 < b := by omega
        have hxk : x ≤ k := Nat.not_lt.mp fun q => hfull k q k3
        have hbet : ∀ j, x ≤ j → j < k → ¬ v j < 2250 := fun j h1 h2 => by have := k4 j (Nat.zero_le j) h2; simpa using this
        have hskip := w_top_skip hov (k - x) (f - (k - x)) x (fun j h1 h2 => hbet j h1 (by omega)) (by omega)
        rw [show f - (k - x) + (k - x) = f by omega, show x + (k - x) = k by omega] at hskip
        obtain ⟨f', hf'⟩ : ∃ f', f - (k - x) = f' + 1 := ⟨f - (k - x) - 1, by omega⟩
        rw [hf'] at hskip
        have hstep : w_top (f' + 1) k b v = w_top f' (if w_pour k b v k < 2250 then k else k + 1) (if w_pour k b v (b - 1) = 0 then b - 1 else b) (w_pour k b v) := if_pos hkb
        have hok := w_pour_ok hkb hov
        have a1 := o3 k
        have a2 := o3 (b - 1)
        have hb1 : w_by k b v ≤ 2250 - v k := by unfold w_by; split <;> omega
        have hb2 : w_by k b v ≤ v (b - 1) := by unfold w_by; split <;> omega
        have hin1 : vp_in (nI k) 12 := vp_in_nI (by omega) (by omega)
        have hin2 : vp_in (nI (b - 1)) 12 := vp_in_nI (by omega) (by omega)
        have hbef : ∀ j, j < k → ¬ w_pour k b v j < 2250 := fun j hj => by
          unfold w_pour
          rw [if_neg (by omega), if_neg (by omega)]
          rcases Nat.lt_or_ge j x with q | q
          · exact hfull j q
          · exact hbet j q hj
        have hfull2 : ∀ j, j < (if w_pour k b v k < 2250 then k else k + 1) → ¬ w_pour k b v j < 2250 := fun j hj => by
          by_cases e : w_pour k b v k < 2250
          · rw [if_pos e] at hj; exact hbef j hj
          · rw [if_neg e] at hj
            by_cases e2 : j = k
            · subst e2; exact e
            · exact hbef j (by omega)
        have hdec : 2 * (if w_pour k b v (b - 1) = 0 then b - 1 else b) ≤ f' + (if w_pour k b v k < 2250 then k else k + 1) := by
          by_cases e : w_pour k b v k < 2250
          · have e2 : w_pour k b v (b - 1) = 0 := by
              have hwb : w_by k b v = if v (b - 1) < 2250 - v k then v (b - 1) else 2250 - v k := rfl
              unfold w_pour at e ⊢
              rw [if_pos rfl] at e
              rw [if_neg (by omega), if_pos rfl]
              by_cases q : v (b - 1) < 2250 - v k
              · rw [if_pos q] at hwb; omega
              · rw [if_neg q] at hwb; omega
            rw [if_pos e, if_pos e2]; omega
          · rw [if_neg e]; split <;> omega
        -- what leaves() does to it
        have hlv : ∀ (J : mm_I), rw_at J m (lvN (w_pour k b v) b) (lvF (w_pour k b v) b) → rw_at J m (if w_pour k b v (b - 1) = 0 then b - 1 else b) (w_pour k b v) := by
          intro J hJ
          have hp5 := hok.2.2.2.1
          by_cases e : w_pour k b v (b - 1) = 0
          · rw [if_pos e] at hp5 ⊢
            have hpp : ∀ j, j < b → j ≠ b - 1 → 0 < w_pour k b v j := fun j h1 h2 => hp5 j (by omega)
            rw [lvN_del e b hpp (by omega)] at hJ
            refine ⟨hJ.1, fun j hj => ?_⟩
            rw [hJ.2 j hj, lvF_del e b hpp (by omega) j hj]
            unfold w_del
            rw [if_pos hj]
          · rw [if_neg e] at hp5 ⊢
            rw [lvN_pos b hp5] at hJ
            exact ⟨hJ.1, fun j hj => by rw [hJ.2 j hj, lvF_pos b hp5 j hj]⟩
        refine mm_aload_n dX8_tops_0 rfl rfl ?_
        refine mm_Vi (N := mX8_needy) (ci := 8) (as := []) dX8_tops_1 lk_X8_69 okX8_needy (by decide) rfl (by decide) rfl (by assumption) rfl (by decide) (r_needy hM0 hv o1 (fun k _ => o3 k)) (fun r1 J1 hq => ?_)
        obtain ⟨rfl, hJ⟩ := hq
        subst J1
        rw [hnd]
        refine mm_if_lt 85 dX8_tops_4 (by decide) (fun c_4 => absurd c_4 (nI_pos (n := k) (by omega))) (fun c_4 => ?_)
        refine mm_aload_n dX8_tops_7 rfl rfl ?_
        refine mm_Vi (N := mX8_needy) (ci := 8) (as := []) dX8_tops_8 lk_X8_69 okX8_needy (by decide) rfl (by decide) rfl (by assumption) rfl (by decide) (r_needy hM0 hv o1 (fun k _ => o3 k)) (fun r2 J1 hq => ?_)
        obtain ⟨rfl, hJ⟩ := hq
        subst J1
        rw [hnd]
        refine mm_istore_n dX8_tops_11 rfl (Nat.le_of_ble_eq_true rfl) ?_
        refine mm_aload_n dX8_tops_12 rfl rfl ?_
        refine mm_getI dX8_tops_13 fl_X8_47 rfl (by assumption) ?_
        refine mm_tope (y := nI b) g1 ?_
        refine mm_iconst 1 dX8_tops_16 rfl ?_
        refine mm_isub dX8_tops_17 ?_
        refine mm_tope (y := nI (b - 1)) (nI_m1 (by omega)) ?_
        refine mm_istore_n dX8_tops_18 rfl (Nat.le_of_ble_eq_true rfl) ?_
        refine mm_aload_n dX8_tops_19 rfl rfl ?_
        refine mm_getR dX8_tops_20 fl_X8_22 rfl (by assumption) (by assumption) ?_
        refine mm_iload_n dX8_tops_23 rfl rfl ?_
        refine mm_iald dX8_tops_24 (by assumption) (by assumption) ?_
        rw [nI_clamp (by omega), g2 (b - 1) (by omega)]
        refine mm_sipush 2250 dX8_tops_25 rfl ?_
        refine mm_aload_n dX8_tops_28 rfl rfl ?_
        refine mm_getR dX8_tops_29 fl_X8_22 rfl (by assumption) (by assumption) ?_
        refine mm_iload_n dX8_tops_32 rfl rfl ?_
        refine mm_iald dX8_tops_33 (by assumption) (by assumption) ?_
        rw [nI_clamp (by omega), g2 k (by omega)]
        refine mm_isub dX8_tops_34 ?_
        refine mm_tope (y := nI (2250 - v k)) (pk_sub (a := 2250) a1) ?_
        refine mm_icmp_ge 47 dX8_tops_35 (by decide) (fun c_35 => ?_) (fun c_35 => ?_)
        · skip
          have hlt : ¬ v (b - 1) < 2250 - v k := fun q => absurd c_35 (nI_ge q (by omega))
          have hby : w_by k b v = 2250 - v k := if_neg hlt
          refine mm_sipush 2250 dX8_tops_47 rfl ?_
          refine mm_aload_n dX8_tops_50 rfl rfl ?_
          refine mm_getR dX8_tops_51 fl_X8_22 rfl (by assumption) (by assumption) ?_
          refine mm_iload_n dX8_tops_54 rfl rfl ?_
          refine mm_iald dX8_tops_55 (by assumption) (by assumption) ?_
          rw [nI_clamp (by omega), g2 k (by omega)]
          refine mm_isub dX8_tops_56 ?_
          refine mm_tope (y := nI (w_by k b v)) (by rw [hby]; exact pk_sub (a := 2250) a1) ?_
          refine mm_istore_n dX8_tops_57 rfl (Nat.le_of_ble_eq_true rfl) ?_
          refine mm_aload_n dX8_tops_58 rfl rfl ?_
          refine mm_getR dX8_tops_59 fl_X8_22 rfl (by assumption) (by assumption) ?_
          refine mm_iload_n dX8_tops_62 rfl rfl ?_
          refine mm_dup2 dX8_tops_63 rfl rfl ?_
          refine mm_iald dX8_tops_64 (by assumption) (by assumption) ?_
          rw [nI_clamp (by omega), g2 k (by omega)]
          refine mm_iload_n dX8_tops_65 rfl rfl ?_
          refine mm_iadd dX8_tops_66 ?_
          refine mm_tope (y := nI (v k + w_by k b v)) (nI_add _ _) ?_
          refine mm_iast dX8_tops_67 (by assumption) (by assumption) ?_
          rw [nI_clamp (by omega)]
          refine mm_aload_n dX8_tops_68 rfl rfl ?_
          refine mm_getR dX8_tops_69 fl_X8_22 rfl (by assumption) (by assumption) ?_
          refine mm_iload_n dX8_tops_72 rfl rfl ?_
          refine mm_dup2 dX8_tops_73 rfl rfl ?_
          refine mm_iald dX8_tops_74 (by assumption) (by assumption) ?_
          rw [nI_clamp (by omega), mm_wr_k (by omega), g2 (b - 1) (by omega)]
          refine mm_iload_n dX8_tops_75 rfl rfl ?_
          refine mm_isub dX8_tops_76 ?_
          refine mm_tope (y := nI (v (b - 1) - w_by k b v)) (pk_sub hb2) ?_
          refine mm_iast dX8_tops_77 (by assumption) (by assumption) ?_
          rw [nI_clamp (by omega)]
          refine mm_G.gen (P := fun J => rw_at J m b (w_pour k b v) ∧ r_fr I J m) ⟨⟨by rw [mm_wr_a (by omega), mm_wr_a (by omega)]; exact g1, fun j hj => by
              unfold w_pour
              by_cases e2 : j = b - 1
              · subst e2; rw [mm_wr_s, if_neg (by omega), if_pos rfl]
              · rw [mm_wr_k e2]
                by_cases e1 : j = k
                · subst e1; rw [mm_wr_s, if_pos rfl]
                · rw [mm_wr_k e1, if_neg e1, if_neg e2]; exact g2 j hj⟩, hfr.w.w⟩ (fun J1 hJ => ?_)
          obtain ⟨j1, j2⟩ := hJ
          refine mm_aload_n dX8_tops_78 rfl rfl ?_
          refine mm_Vv (N := mX8_leaves) (ci := 8) (as := []) dX8_tops_79 lk_X8_50 okX8_leaves (by decide) rfl (by decide) rfl (by assumption) rfl (by decide) (r_leaves hM0 j1 o1 (fun j _ => hok.2.2.1 j)) (fun J2 hq => ?_)
          obtain ⟨q1, q2⟩ := hq
          refine mm_goto 0 dX8_tops_82 (by decide) ?_
          exact mm_G.at (ih f' _ _ _ _ (by omega) (hlv _ q1) hok hfull2 (by rw [← hstep, ← hskip]; exact hf) hdec (j2.tr q2)) (mm_s1 rfl mm_s0)
        · skip
          have hlt : v (b - 1) < 2250 - v k := Nat.not_le.mp fun q => c_35 (nI_le q (by omega))
          have hby : w_by k b v = v (b - 1) := if_pos hlt
          refine mm_aload_n dX8_tops_38 rfl rfl ?_
          refine mm_getR dX8_tops_39 fl_X8_22 rfl (by assumption) (by assumption) ?_
          refine mm_iload_n dX8_tops_42 rfl rfl ?_
          refine mm_iald dX8_tops_43 (by assumption) (by assumption) ?_
          rw [nI_clamp (by omega), g2 (b - 1) (by omega), ← hby]
          refine mm_goto 57 dX8_tops_44 (by decide) ?_
          refine mm_istore_n dX8_tops_57 rfl (Nat.le_of_ble_eq_true rfl) ?_
          refine mm_aload_n dX8_tops_58 rfl rfl ?_
          refine mm_getR dX8_tops_59 fl_X8_22 rfl (by assumption) (by assumption) ?_
          refine mm_iload_n dX8_tops_62 rfl rfl ?_
          refine mm_dup2 dX8_tops_63 rfl rfl ?_
          refine mm_iald dX8_tops_64 (by assumption) (by assumption) ?_
          rw [nI_clamp (by omega), g2 k (by omega)]
          refine mm_iload_n dX8_tops_65 rfl rfl ?_
          refine mm_iadd dX8_tops_66 ?_
          refine mm_tope (y := nI (v k + w_by k b v)) (nI_add _ _) ?_
          refine mm_iast dX8_tops_67 (by assumption) (by assumption) ?_
          rw [nI_clamp (by omega)]
          refine mm_aload_n dX8_tops_68 rfl rfl ?_
          refine mm_getR dX8_tops_69 fl_X8_22 rfl (by assumption) (by assumption) ?_
          refine mm_iload_n dX8_tops_72 rfl rfl ?_
          refine mm_dup2 dX8_tops_73 rfl rfl ?_
          refine mm_iald dX8_tops_74 (by assumption) (by assumption) ?_
          rw [nI_clamp (by omega), mm_wr_k (by omega), g2 (b - 1) (by omega)]
          refine mm_iload_n dX8_tops_75 rfl rfl ?_
          refine mm_isub dX8_tops_76 ?_
          refine mm_tope (y := nI (v (b - 1) - w_by k b v)) (pk_sub hb2) ?_
          refine mm_iast dX8_tops_77 (by assumption) (by assumption) ?_
          rw [nI_clamp (by omega)]
          refine mm_G.gen (P := fun J => rw_at J m b (w_pour k b v) ∧ r_fr I J m) ⟨⟨by rw [mm_wr_a (by omega), mm_wr_a (by omega)]; exact g1, fun j hj => by
              unfold w_pour
              by_cases e2 : j = b - 1
              · subst e2; rw [mm_wr_s, if_neg (by omega), if_pos rfl]
              · rw [mm_wr_k e2]
                by_cases e1 : j = k
                · subst e1; rw [mm_wr_s, if_pos rfl]
                · rw [mm_wr_k e1, if_neg e1, if_neg e2]; exact g2 j hj⟩, hfr.w.w⟩ (fun J1 hJ => ?_)
          obtain ⟨j1, j2⟩ := hJ
          refine mm_aload_n dX8_tops_78 rfl rfl ?_
          refine mm_Vv (N := mX8_leaves) (ci := 8) (as := []) dX8_tops_79 lk_X8_50 okX8_leaves (by decide) rfl (by decide) rfl (by assumption) rfl (by decide) (r_leaves hM0 j1 o1 (fun j _ => hok.2.2.1 j)) (fun J2 hq => ?_)
          obtain ⟨q1, q2⟩ := hq
          refine mm_goto 0 dX8_tops_82 (by decide) ?_
          exact mm_G.at (ih f' _ _ _ _ (by omega) (hlv _ q1) hok hfull2 (by rw [← hstep, ← hskip]; exact hf) hdec (j2.tr q2)) (mm_s1 rfl mm_s0)
  exact loop 25 24 0 n w I (by omega) hw ho (fun j hj => absurd hj (Nat.not_lt_zero j)) rfl (by have := ho.1; omega) r_fr.rf
