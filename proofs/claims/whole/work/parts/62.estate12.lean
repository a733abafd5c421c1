/-! THE CLASS: trade, redeem -/
theorem lot_at_congr2 {I : mm_I} {a l : Nat} {s s' : Nat → Int32} (hn : sv s (9 + 20 * l) ≤ 12) (h1 : ∀ f, f < 20 → f ≠ 5 → f ≠ 7 → s' (9 + f + 20 * l) = s (9 + f + 20 * l)) (h2 : ∀ b, b < 6 → ∀ f, f < 3 → s' (136 + 18 * b + 3 * l + f) = s (136 + 18 * b + 3 * l + f)) (g : lot_at I a s l) : lot_at I a s' l := by
  obtain ⟨g1, g2, g3, g4, g5, g6⟩ := g
  have e0 : sv s' (9 + 20 * l) = sv s (9 + 20 * l) := sv_congr (h1 0 (by omega) (by omega) (by omega))
  have e1 : sv s' (10 + 20 * l) = sv s (10 + 20 * l) := sv_congr (h1 1 (by omega) (by omega) (by omega))
  have ew : sw s' l = sw s l := by
    funext k
    unfold sw
    rw [e0]
    by_cases hk : k < sv s (9 + 20 * l)
    · rw [if_pos hk, if_pos hk]
      have := h1 (8 + k) (by omega) (by omega) (by omega)
      rw [show 9 + (8 + k) + 20 * l = 17 + 20 * l + k by omega] at this
      exact sv_congr this
    · rw [if_neg hk, if_neg hk]
  refine ⟨by rw [e0, e1, ew]; exact g1, fun b hb => ?_, g3.trans (h1 4 (by omega) (by omega) (by omega)).symm, g4.trans (h1 6 (by omega) (by omega) (by omega)).symm, g5.trans (h1 2 (by omega) (by omega) (by omega)).symm, g6.trans (h1 3 (by omega) (by omega) (by omega)).symm⟩
  have q := g2 b hb
  have q1 := h2 b hb 1 (by omega)
  have q2 := h2 b hb 2 (by omega)
  rw [show 136 + 18 * b + 3 * l + 1 = 137 + 18 * b + 3 * l by omega] at q1
  rw [show 136 + 18 * b + 3 * l + 2 = 138 + 18 * b + 3 * l by omega] at q2
  exact ⟨q.1.trans (h2 b hb 0 (by omega)).symm, q.2.1.trans q1.symm, q.2.2.trans q2.symm⟩
theorem EA.skip {I : mm_I} {e : Nat} {s : Nat → Int32} {j : Nat} {z : Int32} (h : EA I e s) (hj : j = 4 ∨ (∃ l, l < 6 ∧ (j = 14 + 20 * l ∨ j = 16 + 20 * l))) : EA I e (upd s j z) := by
  have hu : ∀ i, i ≠ j → upd s j z i = s i := fun i hi => if_neg hi
  have hj2 : ∀ i, i < 316 → (∀ l, l < 6 → i ≠ 14 + 20 * l ∧ i ≠ 16 + 20 * l) → i ≠ 4 → upd s j z i = s i := fun i _ h1 h2 => hu i (fun q => by
    rcases hj with q1 | ⟨l, h3, q2⟩
    · exact h2 (q.trans q1)
    · rcases q2 with q2 | q2
      · exact (h1 l h3).1 (q.trans q2)
      · exact (h1 l h3).2 (q.trans q2))
  obtain ⟨⟨⟨a4, a5, a6, a7, a8, a9, a10, a11⟩, q1, q2, q3, q4⟩, hn⟩ := h
  have h9 : ∀ l, l < 6 → sv (upd s j z) (9 + 20 * l) = sv s (9 + 20 * l) := fun l hl => sv_congr (hj2 _ (by omega) (fun l' h' => ⟨by omega, by omega⟩) (by omega))
  refine ⟨⟨?_, fun b hb => ?_, ?_, fun k hk => ?_, fun l hl => ?_⟩, fun l hl => by rw [h9 l hl]; exact hn l hl⟩
  · rw [hj2 0 (by omega) (fun l' h' => ⟨by omega, by omega⟩) (by omega), hj2 1 (by omega) (fun l' h' => ⟨by omega, by omega⟩) (by omega), hj2 135 (by omega) (fun l' h' => ⟨by omega, by omega⟩) (by omega), hj2 7 (by omega) (fun l' h' => ⟨by omega, by omega⟩) (by omega), hj2 8 (by omega) (fun l' h' => ⟨by omega, by omega⟩) (by omega), hj2 2 (by omega) (fun l' h' => ⟨by omega, by omega⟩) (by omega), hj2 3 (by omega) (fun l' h' => ⟨by omega, by omega⟩) (by omega), hj2 5 (by omega) (fun l' h' => ⟨by omega, by omega⟩) (by omega)]
    exact ⟨a4, a5, a6, a7, a8, a9, a10, a11⟩
  · rw [hj2 _ (by omega) (fun l' h' => ⟨by omega, by omega⟩) (by omega)]; exact q1 b hb
  · rw [hj2 _ (by omega) (fun l' h' => ⟨by omega, by omega⟩) (by omega)]; exact q2
  · rw [hj2 _ (by omega) (fun l' h' => ⟨by omega, by omega⟩) (by omega)]; exact q3 k hk
  · exact lot_at_congr2 (hn l hl) (fun f hf h5 h7 => hj2 _ (by omega) (fun l' h' => ⟨by omega, by omega⟩) (by omega)) (fun b hb f hf => hj2 _ (by omega) (fun l' h' => ⟨by omega, by omega⟩) (by omega)) (q4 l hl)
theorem comes_comm {g : Nat → Int32} {L B T : Nat} {c p : Int32} (hL : L < 6) (hB : B < 6) (hT : T < 6) (hBT : B ≠ T) : upd (upd (upd (upd g (136 + 18 * T + 3 * L) (g (136 + 18 * T + 3 * L) + c)) (137 + 18 * T + 3 * L) (g (137 + 18 * T + 3 * L) + c * p)) (129 + B) (g (129 + B) + c * p)) (129 + T) (g (129 + T) - c * p) = sp_comes g T L c p B := by
  show _ = upd (upd (upd (upd g _ _) _ _) (129 + T) _) (129 + B) ((upd (upd (upd g _ _) _ _) (129 + T) _) (129 + B) + c * p)
  rw [upd_comm (a := 129 + T) (by omega), show (upd (upd (upd g (136 + 18 * T + 3 * L) (g (136 + 18 * T + 3 * L) + c)) (137 + 18 * T + 3 * L) (g (137 + 18 * T + 3 * L) + c * p)) (129 + T) (g (129 + T) - c * p)) (129 + B) = g (129 + B) from (if_neg (by omega)).trans ((if_neg (by omega)).trans (if_neg (by omega)))]

set_option maxRecDepth 100000 in
set_option maxHeartbeats 4000000 in
theorem c_tradeFutures {S : mm_S} {I : mm_I} {e : Nat} {s : Nat → Int32} {l b t c p : Int32} (hE : mm_est S e) (hs : est_at I e s) (hi : Inv s) : mm_ci mX2_tradeFutures [.ref e, .int l, .int b, .int t, .int c, .int p] S I (e_Q e I (sp_trade s l b t c p)) := by
  have hE0 := hE
  obtain ⟨ek, ep0, ep1, ep2, ep3, ek1, ek2, ebk, ebar, elots⟩ := hE
  refine mm_ci.of okX2_tradeFutures rfl (Nat.le_of_ble_eq_true rfl) (lv := [(0, .ref e), (1, .int l), (2, .int b), (3, .int t), (4, .int c), (5, .int p)]) rfl ?_
  refine mm_aload_n dX2_tradeFutures_0 rfl rfl ?_
  refine mm_iload_n dX2_tradeFutures_1 rfl rfl ?_
  refine mm_Vr (N := mX2_lotAt) (ci := 2) (as := [_]) dX2_tradeFutures_2 lk_X2_83 okX2_lotAt (by decide) rfl (by decide) rfl (by assumption) rfl (by decide) (c_lotAt hE0 hs hi) (fun r1 J1 hq => ?_)
  obtain ⟨rfl, hJ⟩ := hq
  subst J1
  by_cases y1 : 0 ≤ l ∧ l < s 0
  · rw [if_pos y1]
    obtain ⟨L, hLn, hL6, rfl, hLc⟩ := inv_l hi y1
    rw [hLc]
    obtain ⟨lk, lp0, lp1, lp2, lp3, lbar, lk3, lk4, lk5⟩ := (elots L hL6).2
    have hL := (elots L hL6).2
    have hlat := hs.2.2.2.2 L hL6
    have hok := (hi.2.1 L hL6).2.1
    have hbk : (S.2.1 (e + 3)).1 = 1 := ebk.1
    have hh := fun b (hb : b < 6) => inv_h (b := b) hi hL6 hb
    refine mm_astore dX2_tradeFutures_5 (Nat.le_of_ble_eq_true rfl) ?_
    refine mm_aload dX2_tradeFutures_7 rfl ?_
    refine mm_ifnull dX2_tradeFutures_9 ?_
    refine mm_aload_n dX2_tradeFutures_12 rfl rfl ?_
    refine mm_iload_n dX2_tradeFutures_13 rfl rfl ?_
    refine mm_Vi (N := mX2_hasBuyer) (ci := 2) (as := [_]) dX2_tradeFutures_14 lk_X2_73 okX2_hasBuyer (by decide) rfl (by decide) rfl (by assumption) rfl (by decide) (c_hasBuyer hE0 hs.1.2.1 hi) (fun r2 J2 hq => ?_)
    obtain ⟨rfl, hJ⟩ := hq
    subst J2
    refine mm_if_eq 33 dX2_tradeFutures_17 (by decide) (fun c_17 => ?_) (fun c_17 => ?_)
    · skip
      have n2 := if_no c_17
      refine mm_ldc dX2_tradeFutures_33 ct_X2_81 ?_
      refine mm_iret dX2_tradeFutures_35 rfl ?_
      first
        | exact ⟨rfl, _, rfl, e_Q_err (if_pos (fun q => n2 q.2.1)) hs⟩
        | exact ⟨rfl, _, rfl, e_Q_err (if_pos (fun q => n3 q.2.2.1)) hs⟩
        | exact ⟨rfl, _, rfl, e_Q_err (if_pos (fun q => q.2.2.2.1 c_30)) hs⟩
    · skip
      have y2 := if_yes c_17
      obtain ⟨B, hBn, hB6, rfl, hBc⟩ := inv_b hi y2
      refine mm_aload_n dX2_tradeFutures_20 rfl rfl ?_
      refine mm_iload_n dX2_tradeFutures_21 rfl rfl ?_
      refine mm_Vi (N := mX2_hasBuyer) (ci := 2) (as := [_]) dX2_tradeFutures_22 lk_X2_73 okX2_hasBuyer (by decide) rfl (by decide) rfl (by assumption) rfl (by decide) (c_hasBuyer hE0 hs.1.2.1 hi) (fun r3 J2 hq => ?_)
      obtain ⟨rfl, hJ⟩ := hq
      subst J2
      refine mm_if_eq 33 dX2_tradeFutures_25 (by decide) (fun c_25 => ?_) (fun c_25 => ?_)
      · skip
        have n3 := if_no c_25
        refine mm_ldc dX2_tradeFutures_33 ct_X2_81 ?_
        refine mm_iret dX2_tradeFutures_35 rfl ?_
        first
          | exact ⟨rfl, _, rfl, e_Q_err (if_pos (fun q => n2 q.2.1)) hs⟩
          | exact ⟨rfl, _, rfl, e_Q_err (if_pos (fun q => n3 q.2.2.1)) hs⟩
          | exact ⟨rfl, _, rfl, e_Q_err (if_pos (fun q => q.2.2.2.1 c_30)) hs⟩
      · skip
        have y3 := if_yes c_25
        obtain ⟨T, hTn, hT6, rfl, hTc⟩ := inv_b hi y3
        refine mm_iload_n dX2_tradeFutures_28 rfl rfl ?_
        refine mm_iload_n dX2_tradeFutures_29 rfl rfl ?_
        refine mm_icmp_ne 36 dX2_tradeFutures_30 (by decide) (fun c_30 => ?_) (fun c_30 => ?_)
        · skip
          have hBT : B ≠ T := fun q => c_30 (by rw [q])
          refine mm_iload dX2_tradeFutures_36 rfl ?_
          refine mm_iconst 1 dX2_tradeFutures_38 rfl ?_
          refine mm_sipush 999 dX2_tradeFutures_39 rfl ?_
          refine mm_SNi (N := mX7_within) (as := [_, _, _]) dX2_tradeFutures_42 lk_X2_77 okX7_within (by decide) rfl rfl (by decide) c_within (fun r4 J2 hq => ?_)
          obtain ⟨rfl, hJ⟩ := hq
          subst J2
          refine mm_if_eq 60 dX2_tradeFutures_45 (by decide) (fun c_45 => ?_) (fun c_45 => ?_)
          · skip
            have n4 := if_no c_45
            refine mm_ldc dX2_tradeFutures_60 ct_X2_81 ?_
            refine mm_iret dX2_tradeFutures_62 rfl ?_
            first
              | exact ⟨rfl, _, rfl, e_Q_err (if_pos (fun q => n4 q.2.2.2.2.1)) hs⟩
              | exact ⟨rfl, _, rfl, e_Q_err (if_pos (fun q => n5 q.2.2.2.2.2)) hs⟩
          · skip
            have y4 := if_yes c_45
            obtain ⟨C, hC1, hC9, rfl, hCc⟩ := int_p (n := 999) rfl (by omega) y4
            refine mm_iload dX2_tradeFutures_48 rfl ?_
            refine mm_iconst 0 dX2_tradeFutures_50 rfl ?_
            refine mm_sipush 999 dX2_tradeFutures_51 rfl ?_
            refine mm_SNi (N := mX7_within) (as := [_, _, _]) dX2_tradeFutures_54 lk_X2_77 okX7_within (by decide) rfl rfl (by decide) c_within (fun r5 J2 hq => ?_)
            obtain ⟨rfl, hJ⟩ := hq
            subst J2
            refine mm_if_ne 63 dX2_tradeFutures_57 (by decide) (fun c_57 => ?_) (fun c_57 => ?_)
            · skip
              have y5 := if_yes c_57
              have hsp : sp_trade s (nI L) (nI B) (nI T) (nI C) p = if sv s (136 + 18 * B + 3 * L) < C then (-2000000002, s)
                  else (s (136 + 18 * T + 3 * L) + nI C, sp_enter (sp_comes (sp_goes s B L C) T L (nI C) p B) 1 (nI L) (nI T) (nI C) p (nI B)) := by
                unfold sp_trade
                rw [if_neg (fun q => q ⟨y1, y2, y3, c_30, y4, y5⟩), hLc, hBc, hTc, hCc]
              have hbB := hh B hB6
              refine mm_aload dX2_tradeFutures_63 rfl ?_
              refine mm_iload_n dX2_tradeFutures_65 rfl rfl ?_
              refine mm_Vi (N := mX4_heldBy) (ci := 4) (as := [_]) dX2_tradeFutures_66 lk_X2_167 okX4_heldBy (by decide) rfl (by decide) rfl (by assumption) rfl (by decide) (c_heldBy hL hB6) (fun r6 J2 hq => ?_)
              obtain ⟨rfl, hJ⟩ := hq
              subst J2
              rw [(hlat.2.1 B hB6).1, hbB.1]
              refine mm_iload dX2_tradeFutures_69 rfl ?_
              refine mm_icmp_ge 77 dX2_tradeFutures_71 (by decide) (fun c_71 => ?_) (fun c_71 => ?_)
              · skip
                have y6 := (nI_leI (by omega) (by omega)).mp c_71
                refine mm_aload dX2_tradeFutures_77 rfl ?_
                refine mm_iload_n dX2_tradeFutures_79 rfl rfl ?_
                refine mm_iload dX2_tradeFutures_80 rfl ?_
                refine mm_Vi (N := mX4_takeBack) (ci := 4) (as := [_, _]) dX2_tradeFutures_82 lk_X2_147 okX4_takeBack (by decide) rfl (by decide) rfl (by assumption) rfl (by decide) (c_takeE hE0 (EA.of hs hi) hi hL6 hB6 y6) (fun r7 J2 hq => ?_)
                obtain ⟨g1, f1⟩ := hq
                refine mm_pop dX2_tradeFutures_85 rfl ?_
                refine mm_aload dX2_tradeFutures_86 rfl ?_
                refine mm_iload_n dX2_tradeFutures_88 rfl rfl ?_
                refine mm_iload dX2_tradeFutures_89 rfl ?_
                refine mm_iload dX2_tradeFutures_91 rfl ?_
                refine mm_iload dX2_tradeFutures_93 rfl ?_
                refine mm_imul dX2_tradeFutures_95 ?_
                refine mm_Vv (N := mX4_give) (ci := 4) (as := [_, _, _]) dX2_tradeFutures_96 lk_X2_163 okX4_give (by decide) rfl (by decide) rfl (by assumption) rfl (by decide) (c_giveE hE0 g1 hL6 hT6) (fun J3 hq => ?_)
                obtain ⟨g2, f2⟩ := hq
                have k1 : J3 (e + 2) B = sp_goes s B L C (129 + B) := (g2.1.2.1 B hB6).trans ((if_neg (by omega)).trans (if_neg (by omega)))
                have k2 : J3 (e + 2) T = sp_goes s B L C (129 + T) := (g2.1.2.1 T hT6).trans ((if_neg (by omega)).trans (if_neg (by omega)))
                refine mm_aload_n dX2_tradeFutures_99 rfl rfl ?_
                refine mm_getR dX2_tradeFutures_100 fl_X2_17 rfl (by assumption) (by assumption) ?_
                refine mm_iload_n dX2_tradeFutures_103 rfl rfl ?_
                refine mm_dup2 dX2_tradeFutures_104 rfl rfl ?_
                refine mm_iald dX2_tradeFutures_105 (by assumption) (vp_in_nI (by omega) (by omega)) ?_
                refine mm_tope (y := sp_goes s B L C (129 + B)) ((congrArg (J3 (e + 2)) (nI_clamp (by omega))).trans k1) ?_
                refine mm_iload dX2_tradeFutures_106 rfl ?_
                refine mm_iload dX2_tradeFutures_108 rfl ?_
                refine mm_imul dX2_tradeFutures_110 ?_
                refine mm_iadd dX2_tradeFutures_111 ?_
                refine mm_iast dX2_tradeFutures_112 (by assumption) (vp_in_nI (by omega) (by omega)) ?_
                rw [nI_clamp (n := B) (by omega)]
                refine mm_aload_n dX2_tradeFutures_113 rfl rfl ?_
                refine mm_getR dX2_tradeFutures_114 fl_X2_17 rfl (by assumption) (by assumption) ?_
                refine mm_iload_n dX2_tradeFutures_117 rfl rfl ?_
                refine mm_dup2 dX2_tradeFutures_118 rfl rfl ?_
                refine mm_iald dX2_tradeFutures_119 (by assumption) (vp_in_nI (by omega) (by omega)) ?_
                refine mm_tope (y := sp_goes s B L C (129 + T)) (by rw [nI_clamp (by omega), mm_wr_k (by omega)]; exact k2) ?_
                refine mm_iload dX2_tradeFutures_120 rfl ?_
                refine mm_iload dX2_tradeFutures_122 rfl ?_
                refine mm_imul dX2_tradeFutures_124 ?_
                refine mm_isub dX2_tradeFutures_125 ?_
                refine mm_iast dX2_tradeFutures_126 (by assumption) (vp_in_nI (by omega) (by omega)) ?_
                rw [nI_clamp (n := T) (by omega)]
                have g3 := (g2.acc B (z := sp_goes s B L C (129 + B) + nI C * p) hB6).acc T (z := sp_goes s B L C (129 + T) - nI C * p) hT6
                rw [comes_comm hL6 hB6 hT6 hBT] at g3
                have f3 : e_fr e J3 _ := (e_fr.rf.w (c := e + 2) (k := B) (z := sp_goes s B L C (129 + B) + nI C * p) (by omega) (by omega)).w (c := e + 2) (k := T) (z := sp_goes s B L C (129 + T) - nI C * p) (by omega) (by omega)
                generalize mm_wr (mm_wr J3 (e + 2) B (sp_goes s B L C (129 + B) + nI C * p)) (e + 2) T (sp_goes s B L C (129 + T) - nI C * p) = J4 at g3 f3 ⊢
                have h6c : sp_comes (sp_goes s B L C) T L (nI C) p B 6 = s 6 := (sp_comes_at (by omega) (by omega) (by omega) (by omega)).trans (sp_goes_at (by omega) (by omega))
                refine mm_aload_n dX2_tradeFutures_127 rfl rfl ?_
                refine mm_getR dX2_tradeFutures_128 fl_X2_24 rfl (by assumption) (by assumption) ?_
                refine mm_iconst 1 dX2_tradeFutures_131 rfl ?_
                refine mm_iload_n dX2_tradeFutures_132 rfl rfl ?_
                refine mm_iload_n dX2_tradeFutures_133 rfl rfl ?_
                refine mm_iload dX2_tradeFutures_134 rfl ?_
                refine mm_iload dX2_tradeFutures_136 rfl ?_
                refine mm_iload_n dX2_tradeFutures_138 rfl rfl ?_
                refine mm_Vv (N := mX1_write) (ci := 1) (as := [_, _, _, _, _, _]) dX2_tradeFutures_139 lk_X2_155 okX1_write (by decide) rfl (by decide) rfl (by assumption) rfl (by decide) (c_bookE hE0 g3 (by rw [sv_congr h6c, h6c]; exact hi.1.2.2.2.1)) (fun J5 hq => ?_)
                obtain ⟨g4, f4⟩ := hq
                refine mm_aload dX2_tradeFutures_142 rfl ?_
                refine mm_iload_n dX2_tradeFutures_144 rfl rfl ?_
                refine mm_Vi (N := mX4_heldBy) (ci := 4) (as := [_]) dX2_tradeFutures_145 lk_X2_167 okX4_heldBy (by decide) rfl (by decide) rfl (by assumption) rfl (by decide) (c_heldBy hL hT6) (fun r8 J6 hq => ?_)
                obtain ⟨rfl, hJ⟩ := hq
                subst J6
                rw [((g4.1.2.2.2.2 L hL6).2.1 T hT6).1, sp_enter_at (by omega) (by omega), sp_comes_h hT6 (by omega), sp_goes_at (by omega) (by omega)]
                refine mm_iret dX2_tradeFutures_148 rfl ?_
                refine ⟨rfl, _, rfl, ?_⟩
                unfold e_Q
                rw [hsp, if_neg (by omega)]
                exact ⟨rfl, g4.1, ((f1.tr f2).tr f3).tr f4⟩
              · skip
                have z1 : sv s (136 + 18 * B + 3 * L) < C := Nat.not_le.mp fun q => c_71 (nI_le q (by omega))
                refine mm_ldc dX2_tradeFutures_74 ct_X2_98 ?_
                refine mm_iret dX2_tradeFutures_76 rfl ?_
                exact ⟨rfl, _, rfl, e_Q_err (by rw [hsp, if_pos z1]) hs⟩
            · skip
              have n5 := if_no c_57
              refine mm_ldc dX2_tradeFutures_60 ct_X2_81 ?_
              refine mm_iret dX2_tradeFutures_62 rfl ?_
              first
                | exact ⟨rfl, _, rfl, e_Q_err (if_pos (fun q => n4 q.2.2.2.2.1)) hs⟩
                | exact ⟨rfl, _, rfl, e_Q_err (if_pos (fun q => n5 q.2.2.2.2.2)) hs⟩
        · skip
          refine mm_ldc dX2_tradeFutures_33 ct_X2_81 ?_
          refine mm_iret dX2_tradeFutures_35 rfl ?_
          first
            | exact ⟨rfl, _, rfl, e_Q_err (if_pos (fun q => n2 q.2.1)) hs⟩
            | exact ⟨rfl, _, rfl, e_Q_err (if_pos (fun q => n3 q.2.2.1)) hs⟩
            | exact ⟨rfl, _, rfl, e_Q_err (if_pos (fun q => q.2.2.2.1 c_30)) hs⟩
  · rw [if_neg y1]
    refine mm_astoreN dX2_tradeFutures_5 (Nat.le_of_ble_eq_true rfl) ?_
    refine mm_aloadN dX2_tradeFutures_7 rfl ?_
    refine mm_ifnullN 33 dX2_tradeFutures_9 (by decide) ?_
    refine mm_ldc dX2_tradeFutures_33 ct_X2_81 ?_
    refine mm_iret dX2_tradeFutures_35 rfl ?_
    exact ⟨rfl, _, rfl, e_Q_err (if_pos (fun q => y1 q.1)) hs⟩
  
set_option maxRecDepth 100000 in
set_option maxHeartbeats 4000000 in
theorem c_redeemFutures {S : mm_S} {I : mm_I} {e : Nat} {s : Nat → Int32} {l b c : Int32} (hE : mm_est S e) (hs : est_at I e s) (hi : Inv s) : mm_ci mX2_redeemFutures [.ref e, .int l, .int b, .int c] S I (e_Q e I (sp_redeem s l b c)) := by
  have hE0 := hE
  obtain ⟨ek, ep0, ep1, ep2, ep3, ek1, ek2, ebk, ebar, elots⟩ := hE
  refine mm_ci.of okX2_redeemFutures rfl (Nat.le_of_ble_eq_true rfl) (lv := [(0, .ref e), (1, .int l), (2, .int b), (3, .int c)]) rfl ?_
  refine mm_aload_n dX2_redeemFutures_0 rfl rfl ?_
  refine mm_iload_n dX2_redeemFutures_1 rfl rfl ?_
  refine mm_Vr (N := mX2_lotAt) (ci := 2) (as := [_]) dX2_redeemFutures_2 lk_X2_83 okX2_lotAt (by decide) rfl (by decide) rfl (by assumption) rfl (by decide) (c_lotAt hE0 hs hi) (fun r1 J1 hq => ?_)
  obtain ⟨rfl, hJ⟩ := hq
  subst J1
  by_cases y1 : 0 ≤ l ∧ l < s 0
  · rw [if_pos y1]
    obtain ⟨L, hLn, hL6, rfl, hLc⟩ := inv_l hi y1
    rw [hLc]
    obtain ⟨lk, lp0, lp1, lp2, lp3, lbar, lk3, lk4, lk5⟩ := (elots L hL6).2
    have hL := (elots L hL6).2
    have hlat := hs.2.2.2.2 L hL6
    have hok := (hi.2.1 L hL6).2.1
    have hbk : (S.2.1 (e + 3)).1 = 1 := ebk.1
    have hh := fun b (hb : b < 6) => inv_h (b := b) hi hL6 hb
    have hlt := hi.2.1 L hL6
    refine mm_astore dX2_redeemFutures_5 (Nat.le_of_ble_eq_true rfl) ?_
    refine mm_aload dX2_redeemFutures_7 rfl ?_
    refine mm_ifnull dX2_redeemFutures_9 ?_
    refine mm_aload_n dX2_redeemFutures_12 rfl rfl ?_
    refine mm_iload_n dX2_redeemFutures_13 rfl rfl ?_
    refine mm_Vi (N := mX2_hasBuyer) (ci := 2) (as := [_]) dX2_redeemFutures_14 lk_X2_73 okX2_hasBuyer (by decide) rfl (by decide) rfl (by assumption) rfl (by decide) (c_hasBuyer hE0 hs.1.2.1 hi) (fun r2 J2 hq => ?_)
    obtain ⟨rfl, hJ⟩ := hq
    subst J2
    refine mm_if_eq 31 dX2_redeemFutures_17 (by decide) (fun c_17 => ?_) (fun c_17 => ?_)
    · skip
      have n2 := if_no c_17
      refine mm_ldc dX2_redeemFutures_31 ct_X2_81 ?_
      refine mm_iret dX2_redeemFutures_33 rfl ?_
      first
        | exact ⟨rfl, _, rfl, e_Q_err (if_pos (fun q => n2 q.2.1)) hs⟩
        | exact ⟨rfl, _, rfl, e_Q_err (if_pos (fun q => n3 q.2.2)) hs⟩
    · skip
      have y2 := if_yes c_17
      obtain ⟨B, hBn, hB6, rfl, hBc⟩ := inv_b hi y2
      refine mm_iload_n dX2_redeemFutures_20 rfl rfl ?_
      refine mm_iconst 1 dX2_redeemFutures_21 rfl ?_
      refine mm_sipush 999 dX2_redeemFutures_22 rfl ?_
      refine mm_SNi (N := mX7_within) (as := [_, _, _]) dX2_redeemFutures_25 lk_X2_77 okX7_within (by decide) rfl rfl (by decide) c_within (fun r4 J2 hq => ?_)
      obtain ⟨rfl, hJ⟩ := hq
      subst J2
      refine mm_if_ne 34 dX2_redeemFutures_28 (by decide) (fun c_28 => ?_) (fun c_28 => ?_)
      · skip
        have y3 := if_yes c_28
        obtain ⟨C, hC1, hC9, rfl, hCc⟩ := int_p (n := 999) rfl (by omega) y3
        have hsp : sp_redeem s (nI L) (nI B) (nI C) = if ¬ (¬ sv s (13 + 20 * L) = 0 ∧ C ≤ sv s (136 + 18 * B + 3 * L)) then (-2000000002, s)
            else (s (14 + 20 * L) - nI C, sp_enter (upd (upd (upd (upd (sp_goes s B L C) (138 + 18 * B + 3 * L) (s (138 + 18 * B + 3 * L) + nI C)) (14 + 20 * L) (s (14 + 20 * L) - nI C)) (16 + 20 * L) (s (16 + 20 * L) + nI C)) 4 (s 4 + nI C)) 3 (nI L) (nI B) (nI C) (-2000000004) (-2000000004)) := by
          unfold sp_redeem
          rw [if_neg (fun q => q ⟨y1, y2, y3⟩), hLc, hBc, hCc]
        have hbB := hh B hB6
        refine mm_aload dX2_redeemFutures_34 rfl ?_
        refine mm_getI dX2_redeemFutures_36 fl_X2_126 rfl (by assumption) ?_
        refine mm_tope (y := s (13 + 20 * L)) hlat.2.2.1 ?_
        refine mm_if_eq 52 dX2_redeemFutures_39 (by decide) (fun c_39 => ?_) (fun c_39 => ?_)
        · skip
          have z1 : ¬ (¬ sv s (13 + 20 * L) = 0 ∧ C ≤ sv s (136 + 18 * B + 3 * L)) := fun q => q.1 ((inv_open hi hL6).mp c_39)
          refine mm_ldc dX2_redeemFutures_52 ct_X2_98 ?_
          refine mm_iret dX2_redeemFutures_54 rfl ?_
          exact ⟨rfl, _, rfl, e_Q_err (by rw [hsp, if_pos z1]) hs⟩
        · skip
          have y4 : ¬ sv s (13 + 20 * L) = 0 := fun q => c_39 ((inv_open hi hL6).mpr q)
          refine mm_aload dX2_redeemFutures_42 rfl ?_
          refine mm_iload_n dX2_redeemFutures_44 rfl rfl ?_
          refine mm_Vi (N := mX4_heldBy) (ci := 4) (as := [_]) dX2_redeemFutures_45 lk_X2_167 okX4_heldBy (by decide) rfl (by decide) rfl (by assumption) rfl (by decide) (c_heldBy hL hB6) (fun r6 J2 hq => ?_)
          obtain ⟨rfl, hJ⟩ := hq
          subst J2
          rw [(hlat.2.1 B hB6).1, hbB.1]
          refine mm_iload_n dX2_redeemFutures_48 rfl rfl ?_
          refine mm_icmp_ge 55 dX2_redeemFutures_49 (by decide) (fun c_49 => ?_) (fun c_49 => ?_)
          · skip
            have y6 := (nI_leI (by omega) (by omega)).mp c_49
            refine mm_aload dX2_redeemFutures_55 rfl ?_
            refine mm_iload_n dX2_redeemFutures_57 rfl rfl ?_
            refine mm_iload_n dX2_redeemFutures_58 rfl rfl ?_
            refine mm_Vv (N := mX4_deliver) (ci := 4) (as := [_, _]) dX2_redeemFutures_59 lk_X2_170 okX4_deliver (by decide) rfl (by decide) rfl (by assumption) rfl (by decide) (c_deliverE hE0 (EA.of hs hi) hi hL6 hB6 y6) (fun J2 hq => ?_)
            obtain ⟨g1, f1⟩ := hq
            have g2 : EA J2 e (upd (upd (upd (upd (sp_goes s B L C) (138 + 18 * B + 3 * L) (s (138 + 18 * B + 3 * L) + nI C)) (14 + 20 * L) (s (14 + 20 * L) - nI C)) (16 + 20 * L) (s (16 + 20 * L) + nI C)) 4 (s 4 + nI C)) := ((g1.skip (Or.inr ⟨L, hL6, Or.inl rfl⟩)).skip (Or.inr ⟨L, hL6, Or.inr rfl⟩)).skip (Or.inl rfl)
            have hX : ∀ j, j ≠ 14 + 20 * L → j ≠ 16 + 20 * L → j ≠ 4 → (upd (upd (upd (upd (sp_goes s B L C) (138 + 18 * B + 3 * L) (s (138 + 18 * B + 3 * L) + nI C)) (14 + 20 * L) (s (14 + 20 * L) - nI C)) (16 + 20 * L) (s (16 + 20 * L) + nI C)) 4 (s 4 + nI C)) j = (upd (sp_goes s B L C) (138 + 18 * B + 3 * L) (s (138 + 18 * B + 3 * L) + nI C)) j := fun j h1 h2 h3 => (if_neg h3).trans ((if_neg h2).trans (if_neg h1))
            have hX2 : ∀ j, j ≠ 136 + 18 * B + 3 * L → j ≠ 137 + 18 * B + 3 * L → j ≠ 138 + 18 * B + 3 * L → (upd (sp_goes s B L C) (138 + 18 * B + 3 * L) (s (138 + 18 * B + 3 * L) + nI C)) j = s j := fun j h1 h2 h3 => (if_neg h3).trans (sp_goes_at h1 h2)
            have h6c : (upd (upd (upd (upd (sp_goes s B L C) (138 + 18 * B + 3 * L) (s (138 + 18 * B + 3 * L) + nI C)) (14 + 20 * L) (s (14 + 20 * L) - nI C)) (16 + 20 * L) (s (16 + 20 * L) + nI C)) 4 (s 4 + nI C)) 6 = s 6 := (hX 6 (by omega) (by omega) (by omega)).trans (hX2 6 (by omega) (by omega) (by omega))
            refine mm_aload_n dX2_redeemFutures_62 rfl rfl ?_
            refine mm_getR dX2_redeemFutures_63 fl_X2_24 rfl (by assumption) (by assumption) ?_
            refine mm_iconst 3 dX2_redeemFutures_66 rfl ?_
            refine mm_iload_n dX2_redeemFutures_67 rfl rfl ?_
            refine mm_iload_n dX2_redeemFutures_68 rfl rfl ?_
            refine mm_iload_n dX2_redeemFutures_69 rfl rfl ?_
            refine mm_ldc dX2_redeemFutures_70 ct_X2_154 ?_
            refine mm_ldc dX2_redeemFutures_72 ct_X2_154 ?_
            refine mm_Vv (N := mX1_write) (ci := 1) (as := [_, _, _, _, _, _]) dX2_redeemFutures_74 lk_X2_155 okX1_write (by decide) rfl (by decide) rfl (by assumption) rfl (by decide) (c_bookE hE0 g2 (by rw [sv_congr h6c, h6c]; exact hi.1.2.2.2.1)) (fun J3 hq => ?_)
            obtain ⟨g3, f3⟩ := hq
            have hl3 := g3.1.2.2.2.2 L hL6
            have v13 : sv s (13 + 20 * L) = 1 := by have := hlt.2.2.2.2.1.1; omega
            have b4 : J3 (e + 7 + 6 * L) 4 = 1 := by
              rw [hl3.2.2.1, sp_enter_at (by omega) (by omega), hX _ (by omega) (by omega) (by omega), hX2 _ (by omega) (by omega) (by omega)]
              have q := inv_f hlt 4 (by omega)
              rw [show 9 + 4 + 20 * L = 13 + 20 * L by omega, v13] at q
              exact q
            have b5 : J3 (e + 7 + 6 * L) 5 = nI (sv s (15 + 20 * L)) := by
              rw [hl3.2.2.2.1, sp_enter_at (by omega) (by omega), hX _ (by omega) (by omega) (by omega), hX2 _ (by omega) (by omega) (by omega)]
              have q := inv_f hlt 6 (by omega)
              rw [show 9 + 6 + 20 * L = 15 + 20 * L by omega] at q
              exact q
            have hd : ∀ b, b < 6 → s (138 + 18 * b + 3 * L) = nI (sv s (138 + 18 * b + 3 * L)) := fun b hb => by
              have q := (hlt.2.2.2.2.2.2.2 b hb).1 2 (by omega)
              rw [show 136 + 18 * b + 3 * L + 2 = 138 + 18 * b + 3 * L by omega] at q
              exact q
            have bs : is_sum (J3 (e + 7 + 6 * L + 5)) 6 = nI (gsum s L + C) := by
              rw [is_sum_nI (g := fun b => if b = B then sv s (138 + 18 * B + 3 * L) + C else sv s (138 + 18 * b + 3 * L)) 6 (fun b hb => ?_)]
              · have q := ws_one (v := fun b => if b = B then sv s (138 + 18 * B + 3 * L) + C else sv s (138 + 18 * b + 3 * L)) (w := fun b => sv s (138 + 18 * b + 3 * L)) (b := B) 6 hB6 (fun k _ hk => if_neg hk)
                rw [if_pos rfl] at q
                have q3 : gsum s L = ws_sum (fun b => sv s (138 + 18 * b + 3 * L)) 6 := rfl
                congr 1
                have q4 : ∀ x y z w : Nat, x + y = z + (y + w) → x = z + w := fun x y z w h => by omega
                rw [q3]
                exact q4 _ _ _ _ q
              · rw [(hl3.2.1 b hb).2.2, sp_enter_at (by omega) (by omega), hX _ (by omega) (by omega) (by omega)]
                by_cases eb : b = B
                · subst eb
                  show upd _ _ _ _ = nI (if b = b then _ else _)
                  rw [if_pos rfl, ← nI_add, ← hd b hb]
                  exact if_pos rfl
                · show _ = nI (if b = B then _ else _)
                  rw [if_neg eb, hX2 _ (by omega) (by omega) (by omega)]
                  exact hd b hb
            refine mm_aload dX2_redeemFutures_77 rfl ?_
            refine mm_Vi (N := mX4_casesNow) (ci := 4) (as := []) dX2_redeemFutures_79 lk_X2_173 okX4_casesNow (by decide) rfl (by decide) rfl (by assumption) rfl (by decide) (c_casesNow_b hL b4) (fun r7 J4 hq => ?_)
            obtain ⟨rfl, hJ⟩ := hq
            subst J4
            have q14 := inv_f hlt 5 (by omega)
            rw [show 9 + 5 + 20 * L = 14 + 20 * L by omega] at q14
            have hsum14 := hlt.2.2.2.2.2.1
            have hle14 := hlt.2.2.2.2.2.2.1.2 v13
            have hleB : sv s (136 + 18 * B + 3 * L) ≤ hsum s L := by
              have q := ws_one (v := fun b => if b = B then 0 else sv s (136 + 18 * b + 3 * L)) (w := fun b => sv s (136 + 18 * b + 3 * L)) (b := B) 6 hB6 (fun k _ hk => if_neg hk)
              rw [if_pos rfl] at q
              have q4 : ∀ x y z : Nat, x + y = z + 0 → y ≤ z := fun x y z h => by omega
              exact q4 _ _ _ q
            have hval : nI (sv s (15 + 20 * L)) - nI (gsum s L + C) = s (14 + 20 * L) - nI C := by
              rw [q14, pk_sub (by omega), pk_sub (by omega)]
              congr 1
              omega
            rw [b5, bs, hval]
            refine mm_iret dX2_redeemFutures_82 rfl ?_
            refine ⟨rfl, _, rfl, ?_⟩
            unfold e_Q
            rw [hsp, if_neg (fun q => q ⟨y4, y6⟩)]
            exact ⟨rfl, g3.1, f1.tr f3⟩
          · skip
            have z1 : ¬ (¬ sv s (13 + 20 * L) = 0 ∧ C ≤ sv s (136 + 18 * B + 3 * L)) := fun q => c_49 (nI_le q.2 (by omega))
            refine mm_ldc dX2_redeemFutures_52 ct_X2_98 ?_
            refine mm_iret dX2_redeemFutures_54 rfl ?_
            exact ⟨rfl, _, rfl, e_Q_err (by rw [hsp, if_pos z1]) hs⟩
      · skip
        have n3 := if_no c_28
        refine mm_ldc dX2_redeemFutures_31 ct_X2_81 ?_
        refine mm_iret dX2_redeemFutures_33 rfl ?_
        first
          | exact ⟨rfl, _, rfl, e_Q_err (if_pos (fun q => n2 q.2.1)) hs⟩
          | exact ⟨rfl, _, rfl, e_Q_err (if_pos (fun q => n3 q.2.2)) hs⟩
  · rw [if_neg y1]
    refine mm_astoreN dX2_redeemFutures_5 (Nat.le_of_ble_eq_true rfl) ?_
    refine mm_aloadN dX2_redeemFutures_7 rfl ?_
    refine mm_ifnullN 31 dX2_redeemFutures_9 (by decide) ?_
    refine mm_ldc dX2_redeemFutures_31 ct_X2_81 ?_
    refine mm_iret dX2_redeemFutures_33 rfl ?_
    exact ⟨rfl, _, rfl, e_Q_err (if_pos (fun q => y1 q.1)) hs⟩
  
