/-! THE CLASS: months pass; the changes of a state whose barrels are 12 at most -/
theorem est_lotn {I J : mm_I} {e L : Nat} {s s' : Nat → Int32} (hn : ∀ l, l < 6 → sv s (9 + 20 * l) ≤ 12) (hs : est_at I e s) (hL : L < 6) (hJ : ∀ c, c < e + 7 + 6 * L ∨ e + 13 + 6 * L ≤ c → J c = I c) (hlot : lot_at J (e + 7 + 6 * L) s' L) (hat : ∀ j, j < 316 → ¬ (9 + 20 * L ≤ j ∧ j < 29 + 20 * L) → ¬ (136 ≤ j ∧ j < 244) → s' j = s j) (hh : ∀ l, l < 6 → l ≠ L → ∀ b, b < 6 → ∀ f, f < 3 → s' (136 + 18 * b + 3 * l + f) = s (136 + 18 * b + 3 * l + f)) : est_at J e s' := by
  obtain ⟨⟨a4, a5, a6, a7, a8, a9, a10, a11⟩, b, c, d, f⟩ := hs
  have he := hJ e (by omega)
  refine ⟨⟨?_, ?_, ?_, ?_, ?_, ?_, ?_, ?_⟩, fun b' hb => ?_, ?_, fun k' hk' => ?_, fun l hl => ?_⟩
  · rw [he, hat 0 (by omega) (by omega) (by omega)]; exact a4
  · rw [he, hat 1 (by omega) (by omega) (by omega)]; exact a5
  · rw [he, hat 135 (by omega) (by omega) (by omega)]; exact a6
  · rw [he, hat 7 (by omega) (by omega) (by omega)]; exact a7
  · rw [he, hat 8 (by omega) (by omega) (by omega)]; exact a8
  · rw [he, hat 2 (by omega) (by omega) (by omega)]; exact a9
  · rw [he, hat 3 (by omega) (by omega) (by omega)]; exact a10
  · rw [he, hat 5 (by omega) (by omega) (by omega)]; exact a11
  · rw [hJ _ (by omega), hat _ (by omega) (by omega) (by omega)]; exact b b' hb
  · rw [hJ _ (by omega), hat _ (by omega) (by omega) (by omega)]; exact c
  · rw [hJ _ (by omega), hat _ (by omega) (by omega) (by omega)]; exact d k' hk'
  · by_cases e2 : l = L
    · subst e2; exact hlot
    · exact lot_at_congr (hn l hl) (fun f hf => hat _ (by omega) (by omega) (by omega)) (hh l hl e2) (lot_at_I (fun c h1 h2 => hJ c (by omega)) (f l hl))
theorem est_winen {I J : mm_I} {e L N : Nat} {w' : Nat → Nat} {s s' : Nat → Int32} (hn : ∀ l, l < 6 → sv s (9 + 20 * l) ≤ 12) (hs : est_at I e s) (hL : L < 6) (hJ : ∀ c, c ≠ e + 7 + 6 * L → c ≠ e + 7 + 6 * L + 1 → c ≠ e + 7 + 6 * L + 1 + 1 → J c = I c) (hw : wv_at J (e + 7 + 6 * L + 1) N (sv s (10 + 20 * L)) w') (ho : wv_ok N (sv s (10 + 20 * L)) w') (j4 : J (e + 7 + 6 * L) 4 = I (e + 7 + 6 * L) 4) (j5 : J (e + 7 + 6 * L) 5 = I (e + 7 + 6 * L) 5) (j6 : J (e + 7 + 6 * L) 6 = s' (11 + 20 * L)) (j7 : J (e + 7 + 6 * L) 7 = s' (12 + 20 * L)) (hat : ∀ j, j ≠ 9 + 20 * L → j ≠ 11 + 20 * L → j ≠ 12 + 20 * L → ¬ (17 + 20 * L ≤ j ∧ j < 29 + 20 * L) → s' j = s j) (e9 : s' (9 + 20 * L) = nI N) (ew : ∀ k, k < N → s' (17 + 20 * L + k) = nI (w' k)) : est_at J e s' := by
  obtain ⟨v9, vw⟩ := sw_of e9 ho ew
  have hl := hs.2.2.2.2 L hL
  have v10 : sv s' (10 + 20 * L) = sv s (10 + 20 * L) := sv_congr (hat _ (by omega) (by omega) (by omega) (by omega))
  refine est_lotn hn hs hL (fun c hc => hJ c (by omega) (by omega) (by omega)) ⟨by rw [v9, v10, vw]; exact hw, fun b hb => ?_, ?_, ?_, j6, j7⟩ (fun j h1 h2 h3 => hat j (by omega) (by omega) (by omega) (by omega)) (fun l h1 h2 b h3 f h4 => hat _ (by omega) (by omega) (by omega) (by omega))
  · rw [hJ _ (by omega) (by omega) (by omega), hJ _ (by omega) (by omega) (by omega), hJ _ (by omega) (by omega) (by omega), hat _ (by omega) (by omega) (by omega) (by omega), hat _ (by omega) (by omega) (by omega) (by omega), hat _ (by omega) (by omega) (by omega) (by omega)]
    exact hl.2.1 b hb
  · rw [j4, hat _ (by omega) (by omega) (by omega) (by omega)]; exact hl.2.2.1
  · rw [j5, hat _ (by omega) (by omega) (by omega) (by omega)]; exact hl.2.2.2.1
theorem est_intn {I : mm_I} {e k j : Nat} {s : Nat → Int32} {z : Int32} (hn : ∀ l, l < 6 → sv s (9 + 20 * l) ≤ 12) (hs : est_at I e s) (hk : (k = 4 ∧ j = 0) ∨ (k = 5 ∧ j = 1) ∨ (k = 6 ∧ j = 135) ∨ (k = 7 ∧ j = 7) ∨ (k = 8 ∧ j = 8) ∨ (k = 9 ∧ j = 2) ∨ (k = 10 ∧ j = 3) ∨ (k = 11 ∧ j = 5)) : est_at (mm_wr I e k z) e (upd s j z) := by
  obtain ⟨⟨a4, a5, a6, a7, a8, a9, a10, a11⟩, b, c, d, f⟩ := hs
  have hI : ∀ q i, (q = k ∧ i = j) ∨ (q ≠ k ∧ i ≠ j) → I e q = s i → mm_wr I e k z e q = upd s j z i := fun q i h h3 => by
    rcases h with ⟨rfl, rfl⟩ | ⟨h1, h2⟩
    · rw [mm_wr_s]; exact (if_pos rfl).symm
    · rw [mm_wr_k h1]; exact h3.trans (if_neg h2).symm
  have hr : ∀ q, q ≠ e → mm_wr I e k z q = I q := fun q hq => mm_wr_row hq
  have hu : ∀ i, i ≠ j → upd s j z i = s i := fun i hi => if_neg hi
  refine ⟨⟨hI 4 0 (by omega) a4, hI 5 1 (by omega) a5, hI 6 135 (by omega) a6, hI 7 7 (by omega) a7, hI 8 8 (by omega) a8, hI 9 2 (by omega) a9, hI 10 3 (by omega) a10, hI 11 5 (by omega) a11⟩, fun b' hb => ?_, ?_, fun k' hk' => ?_, fun l hl => ?_⟩
  · rw [hr _ (by omega), hu _ (by omega)]; exact b b' hb
  · rw [hr _ (by omega), hu _ (by omega)]; exact c
  · rw [hr _ (by omega), hu _ (by omega)]; exact d k' hk'
  · exact lot_at_congr (hn l hl) (fun f hf => hu _ (by omega)) (fun b hb f hf => hu _ (by omega)) (lot_at_I (fun c h1 h2 => hr c (by omega)) (f l hl))
theorem passL_n {s : Nat → Int32} {t i l : Nat} (hi : Inv s) (hl : l < 6) : sv (passL s t i) (9 + 20 * l) ≤ 12 := by
  rw [show sv (passL s t i) (9 + 20 * l) = sv s (9 + 20 * l) from sv_congr (passL_out (by omega))]
  exact inv_n hi hl
theorem passL_sw {s : Nat → Int32} {t i : Nat} (hn : sv s (9 + 20 * i) ≤ 12) (hi : i < 6) : sw (passL s t i) i = sw s i := by
  funext k
  unfold sw
  rw [show sv (passL s t i) (9 + 20 * i) = sv s (9 + 20 * i) from sv_congr (passL_out (by omega))]
  by_cases hk : k < sv s (9 + 20 * i)
  · rw [if_pos hk, if_pos hk]; exact sv_congr (passL_hi (by omega))
  · rw [if_neg hk, if_neg hk]
/-- lot i of the estate has lost -/
theorem est_pass {I : mm_I} {e i t : Nat} {s : Nat → Int32} (hi : Inv s) (hs : est_at I e (passL s t i)) (hi6 : i < 6) : est_at (mm_row I (e + 7 + 6 * i + 1 + 1) (sv s (9 + 20 * i)) (fun k => nI (wb_it (sv s (10 + 20 * i)) t (sw s i k)))) e (passL s t (i + 1)) := by
  have hlt := hi.2.1 i hi6
  have hok := hlt.2.1
  have hn12 := hok.1
  have v9 : sv (passL s t i) (9 + 20 * i) = sv s (9 + 20 * i) := sv_congr (passL_out (by omega))
  have v10 : sv (passL s t i) (10 + 20 * i) = sv s (10 + 20 * i) := sv_congr (passL_out (by omega))
  have vw := passL_sw (t := t) hn12 hi6
  have hl := hs.2.2.2.2 i hi6
  have h1 := hl.1
  rw [v9, v10, vw] at h1
  obtain ⟨w1, w2, w3⟩ := h1
  have hr : ∀ c, c ≠ e + 7 + 6 * i + 1 + 1 → mm_row I (e + 7 + 6 * i + 1 + 1) (sv s (9 + 20 * i)) (fun k => nI (wb_it (sv s (10 + 20 * i)) t (sw s i k))) c = I c := fun c hc => mm_row_n hc
  refine est_winen (N := sv s (9 + 20 * i)) (w' := fun k => wb_it (sv s (10 + 20 * i)) t (sw s i k)) (fun l h => passL_n hi h) hs hi6 (fun c c1 c2 c3 => hr c c3) ?_ ?_ (by rw [hr _ (by omega)]) (by rw [hr _ (by omega)]) ?_ ?_ (fun j j1 j2 j3 j4 => ?_) ?_ (fun k hk => ?_)
  · rw [v10]
    refine ⟨by rw [hr _ (by omega)]; exact w1, by rw [hr _ (by omega)]; exact w2, fun k hk => ?_⟩
    by_cases hkn : k < sv s (9 + 20 * i)
    · exact mm_row_in hkn
    · rw [mm_row_o hkn, w3 k hk]
      show nI (sw s i k) = nI (wb_it _ t (sw s i k))
      rw [show sw s i k = 0 from if_neg hkn, wb_it_z]
  · rw [v10]
    refine ⟨hn12, hok.2.1, fun k => Nat.le_trans (wb_it_le _ _) (hok.2.2.1 k), fun k hk => wb_it_pos hok.2.1 _ _ (hok.2.2.2.1 k hk), fun k hk => ?_⟩
    show wb_it _ t (sw s i k) = 0
    rw [hok.2.2.2.2 k hk, wb_it_z]
  · rw [hr _ (by omega), hl.2.2.2.2.1, passL_out (by omega), passL_out (by omega)]
  · rw [hr _ (by omega), hl.2.2.2.2.2, passL_out (by omega), passL_out (by omega)]
  · unfold passL
    by_cases q : 9 ≤ j ∧ j < 129 ∧ 8 ≤ (j - 9) % 20 ∧ (j - 9) / 20 < i ∧ (j - 9) % 20 - 8 < sv s (9 + 20 * ((j - 9) / 20))
    · rw [if_pos q, if_pos (by omega)]
    · rw [if_neg q, if_neg (by omega)]
  · rw [passL_out (by omega)]; exact hlt.1 0 (by omega)
  · have e3 : (17 + 20 * i + k - 9) / 20 = i := by omega
    unfold passL
    rw [if_pos ⟨by omega, by omega, by omega, by omega, by rw [e3]; omega⟩, e3]
    show nI (wb_it _ t (sv s (17 + 20 * i + k))) = nI (wb_it _ t (sw s i k))
    rw [sw_in hk]

set_option maxRecDepth 100000 in
set_option maxHeartbeats 4000000 in
theorem c_passMonths {S : mm_S} {I : mm_I} {e : Nat} {s : Nat → Int32} {t : Int32} (hE : mm_est S e) (hs : est_at I e s) (hi : Inv s) : mm_ci mX2_passMonths [.ref e, .int t] S I (e_Q e I (sp_pass s t)) := by
  have hE0 := hE
  obtain ⟨ek, ep0, ep1, ep2, ep3, ek1, ek2, ebk, ebar, elots⟩ := hE
  have hn6 := hi.1.1.2
  have h2 := hi.1.2.2.1
  have h9n : I e 9 = nI (sv s 2) := hs.1.2.2.2.2.2.1.trans h2.1
  refine mm_ci.of okX2_passMonths rfl (Nat.le_of_ble_eq_true rfl) (lv := [(0, .ref e), (1, .int t)]) rfl ?_
  refine mm_iload_n dX2_passMonths_0 rfl rfl ?_
  refine mm_iconst 1 dX2_passMonths_1 rfl ?_
  refine mm_bipush 60 dX2_passMonths_2 rfl ?_
  refine mm_SNi (N := mX7_within) (as := [_, _, _]) dX2_passMonths_4 lk_X2_77 okX7_within (by decide) rfl rfl (by decide) c_within (fun r1 J1 hq => ?_)
  obtain ⟨rfl, hJ⟩ := hq
  subst J1
  refine mm_if_ne 13 dX2_passMonths_7 (by decide) (fun c_7 => ?_) (fun c_7 => ?_)
  · skip
    have y1 := if_yes c_7
    obtain ⟨T, hT1, hT60, rfl, hTc⟩ := int_p (n := 60) rfl (by omega) y1
    refine mm_aload_n dX2_passMonths_13 rfl rfl ?_
    refine mm_getI dX2_passMonths_14 fl_X2_64 rfl (by assumption) ?_
    refine mm_tope (y := nI (sv s 2)) h9n ?_
    refine mm_iload_n dX2_passMonths_17 rfl rfl ?_
    refine mm_iadd dX2_passMonths_18 ?_
    refine mm_tope (y := nI (sv s 2 + T)) (nI_add _ _) ?_
    refine mm_sipush 999 dX2_passMonths_19 rfl ?_
    refine mm_icmp_le 28 dX2_passMonths_22 (by decide) (fun c_22 => ?_) (fun c_22 => ?_)
    · skip
      have hle : ¬ 999 < sv s 2 + T := fun q => absurd c_22 (nI_ge (a := 999) q (by omega))
      refine mm_iconst 0 dX2_passMonths_28 rfl ?_
      refine mm_istore_n dX2_passMonths_29 rfl (Nat.le_of_ble_eq_true rfl) ?_
      refine mm_iconst 0 dX2_passMonths_30 rfl ?_
      refine mm_istore_n dX2_passMonths_31 rfl (Nat.le_of_ble_eq_true rfl) ?_
      have hsp : sp_pass s (nI T) = (nI (lostW s T), upd (upd (passL s T (sv s 0)) 2 (nI (sv s 2 + T))) 3 (s 3 + nI (lostW s T))) := by unfold sp_pass; rw [if_neg (fun q => q y1), hTc, if_neg hle]; rfl
      have loop : ∀ (u i : Nat) (I1 : mm_I), i + u = sv s 0 → est_at I1 e (passL s T i) → e_fr e I I1 → mm_Gi mX2_passMonths (e_Q e I (sp_pass s (nI T))) 32 [(3, .int (nI i)), (2, .int (nI (ws_sum (lostL s T) i))), (0, .ref e), (1, .int (nI T))] [] S S I1 := by
        intro u
        induction u with
        | zero =>
          intro i I1 hiu g1 g2
          have g4 : I1 e 4 = nI (sv s 0) := by rw [g1.1.1, passL_out (by omega)]; exact hi.1.1.1
          have g9 : I1 e 9 = nI (sv s 2) := by rw [g1.1.2.2.2.2.2.1, passL_out (by omega)]; exact h2.1
          have g10 : I1 e 10 = s 3 := by rw [g1.1.2.2.2.2.2.2.1, passL_out (by omega)]
          refine mm_iload_n dX2_passMonths_32 rfl rfl ?_
          refine mm_aload_n dX2_passMonths_33 rfl rfl ?_
          refine mm_getI dX2_passMonths_34 fl_X2_55 rfl (by assumption) ?_
          refine mm_tope (y := nI (sv s 0)) g4 ?_
          refine mm_icmp_ge 74 dX2_passMonths_37 (by decide) (fun c_37 => ?_) (fun c_37 => absurd (nI_le (by omega) (by omega)) c_37)
          refine mm_aload_n dX2_passMonths_74 rfl rfl ?_
          refine mm_dup dX2_passMonths_75 rfl ?_
          refine mm_getI dX2_passMonths_76 fl_X2_64 rfl (by assumption) ?_
          refine mm_tope (y := nI (sv s 2)) g9 ?_
          refine mm_iload_n dX2_passMonths_79 rfl rfl ?_
          refine mm_iadd dX2_passMonths_80 ?_
          refine mm_tope (y := nI (sv s 2 + T)) (nI_add _ _) ?_
          refine mm_putI dX2_passMonths_81 fl_X2_64 rfl rfl (by assumption) ?_
          refine mm_aload_n dX2_passMonths_84 rfl rfl ?_
          refine mm_dup dX2_passMonths_85 rfl ?_
          refine mm_getI dX2_passMonths_86 fl_X2_67 rfl (by assumption) ?_
          refine mm_tope (y := s 3) ((mm_wr_k (by omega)).trans g10) ?_
          refine mm_iload_n dX2_passMonths_89 rfl rfl ?_
          refine mm_iadd dX2_passMonths_90 ?_
          refine mm_putI dX2_passMonths_91 fl_X2_67 rfl rfl (by assumption) ?_
          refine mm_iload_n dX2_passMonths_94 rfl rfl ?_
          refine mm_iret dX2_passMonths_95 rfl ?_
          have hiN : i = sv s 0 := by omega
          subst hiN
          refine ⟨rfl, _, rfl, ?_⟩
          unfold e_Q
          rw [hsp]
          have q1 : est_at _ e _ := est_intn (k := 9) (j := 2) (z := nI (sv s 2 + T)) (fun l h => passL_n hi h) g1 (by omega)
          have q2 : est_at _ e _ := est_intn (k := 10) (j := 3) (z := s 3 + nI (lostW s T)) (fun l h => by rw [show sv (upd (passL s T (sv s 0)) 2 (nI (sv s 2 + T))) (9 + 20 * l) = sv (passL s T (sv s 0)) (9 + 20 * l) from sv_congr (if_neg (by omega))]; exact passL_n hi h) q1 (by omega)
          exact ⟨rfl, q2, (g2.w (Nat.le_refl _) (by omega)).w (Nat.le_refl _) (by omega)⟩
        | succ u ih =>
          intro i I1 hiu g1 g2
          have hi6 : i < 6 := by omega
          have g4 : I1 e 4 = nI (sv s 0) := by rw [g1.1.1, passL_out (by omega)]; exact hi.1.1.1
          have hok := (hi.2.1 i hi6).2.1
          obtain ⟨lk, lp0, lp1, lp2, lp3, lbar, lk3, lk4, lk5⟩ := (elots i hi6).2
          have bk := lbar.1
          have g0 := (g1.2.2.2.2 i hi6).1
          rw [show sv (passL s T i) (9 + 20 * i) = sv s (9 + 20 * i) from sv_congr (passL_out (by omega)), show sv (passL s T i) (10 + 20 * i) = sv s (10 + 20 * i) from sv_congr (passL_out (by omega)), passL_sw hok.1 hi6] at g0
          refine mm_iload_n dX2_passMonths_32 rfl rfl ?_
          refine mm_aload_n dX2_passMonths_33 rfl rfl ?_
          refine mm_getI dX2_passMonths_34 fl_X2_55 rfl (by assumption) ?_
          refine mm_tope (y := nI (sv s 0)) g4 ?_
          refine mm_icmp_ge 74 dX2_passMonths_37 (by decide) (fun c_37 => absurd c_37 (nI_ge (by omega) (by omega))) (fun c_37 => ?_)
          refine mm_aload_n dX2_passMonths_40 rfl rfl ?_
          refine mm_iload_n dX2_passMonths_41 rfl rfl ?_
          refine mm_Vr (N := mX2_lotAt) (ci := 2) (as := [_]) dX2_passMonths_42 lk_X2_83 okX2_lotAt (by decide) rfl (by decide) rfl (by assumption) rfl (by decide) (c_lotAtN hE0 g4 hn6 (by omega)) (fun r1 J1 hq => ?_)
          obtain ⟨rfl, hJ⟩ := hq
          subst J1
          refine mm_astore dX2_passMonths_45 (Nat.le_of_ble_eq_true rfl) ?_
          refine mm_iload_n dX2_passMonths_47 rfl rfl ?_
          refine mm_aload dX2_passMonths_48 rfl ?_
          refine mm_ifnonnull 57 dX2_passMonths_50 (by decide) ?_
          refine mm_aload dX2_passMonths_57 rfl ?_
          refine mm_getR dX2_passMonths_59 fl_X2_87 rfl (by assumption) (by assumption) ?_
          refine mm_iload_n dX2_passMonths_62 rfl rfl ?_
          refine mm_Vi (N := mX0_lose) (ci := 0) (as := [_]) dX2_passMonths_63 lk_X2_122 okX0_lose (by decide) rfl (by decide) rfl (by assumption) rfl (by first | decide | (simp [Value.category])) (c_lose lbar g0 hok (by omega)) (fun r2 J2 hq => ?_)
          obtain ⟨rfl, hJ⟩ := hq
          subst hJ
          refine mm_iadd dX2_passMonths_66 ?_
          refine mm_tope (y := nI (ws_sum (lostL s T) (i + 1))) (nI_add _ _) ?_
          refine mm_istore_n dX2_passMonths_67 rfl (Nat.le_of_ble_eq_true rfl) ?_
          refine mm_iinc 1 dX2_passMonths_68 rfl rfl (Nat.le_of_ble_eq_true rfl) ?_
          rw [nI_1]
          refine mm_goto 32 dX2_passMonths_71 (by decide) ?_
          exact mm_G.at (ih (i + 1) _ (by omega) (est_pass hi g1 hi6) (g2.tr (fun c hc => mm_row_n (by omega)))) (mm_s1 rfl (mm_s1 rfl (mm_s1 rfl (mm_s1 rfl mm_s0))))
      exact mm_G.at (loop (sv s 0) 0 I (by omega) (by rw [passL_0]; exact hs) e_fr.rf) (mm_s1 rfl (mm_s1 rfl (mm_s1 rfl (mm_s1 rfl mm_s0))))
    · skip
      have hgt : 999 < sv s 2 + T := Nat.not_le.mp fun q => c_22 (nI_le (b := 999) q (by omega))
      refine mm_ldc dX2_passMonths_25 ct_X2_82 ?_
      refine mm_iret dX2_passMonths_27 rfl ?_
      exact ⟨rfl, _, rfl, e_Q_err (by unfold sp_pass; rw [if_neg (fun q => q y1), hTc, if_pos hgt]) hs⟩
  · skip
    have n1 := if_no c_7
    refine mm_ldc dX2_passMonths_10 ct_X2_81 ?_
    refine mm_iret dX2_passMonths_12 rfl ?_
    exact ⟨rfl, _, rfl, e_Q_err (if_pos n1) hs⟩
