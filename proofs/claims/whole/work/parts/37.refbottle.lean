/-! THE REFERENCE: bottle -/
theorem w_cut_le {h c al : Nat} : w_cut h c al ≤ h := by
  unfold w_cut
  split
  · omega
  · exact Nat.sub_le _ _
theorem sp_cut1_at {s : Nat → Int32} {l b c al j : Nat} (hj : j < 244) (h6 : j ≠ 6) (h0 : j ≠ 136 + 18 * b + 3 * l) (h1 : j ≠ 137 + 18 * b + 3 * l) (h2 : j ≠ 129 + b) (h3 : j ≠ 135) : sp_cut1 s l b c al j = s j := by
  unfold sp_cut1
  split
  · rfl
  · rw [sp_enter_at hj h6]
    unfold upd
    rw [if_neg h3, if_neg h2, sp_goes_at h0 h1]
theorem sp_cut1_6 {s : Nat → Int32} {l b c al : Nat} (hb : b < 6) (hl : l < 6) (h : s 6 = nI (sv s 6) ∧ sv s 6 ≤ 12) : sp_cut1 s l b c al 6 = nI (sv (sp_cut1 s l b c al) 6) ∧ sv (sp_cut1 s l b c al) 6 ≤ 12 := by
  by_cases h0 : w_cut (sv s (136 + 18 * b + 3 * l)) c al = 0
  · have e : sp_cut1 s l b c al = s := if_pos h0
    rw [e]; exact h
  · have e : ∃ n, n ≤ 12 ∧ sp_cut1 s l b c al 6 = nI n := by
      unfold sp_cut1
      rw [if_neg h0, sp_enter_6]
      have e2 : sv (upd (upd (sp_goes s b l (w_cut (sv s (136 + 18 * b + 3 * l)) c al)) (129 + b) (s (129 + b) + nI (sv s (137 + 18 * b + 3 * l) * w_cut (sv s (136 + 18 * b + 3 * l)) c al / sv s (136 + 18 * b + 3 * l)))) 135 (s 135 - nI (sv s (137 + 18 * b + 3 * l) * w_cut (sv s (136 + 18 * b + 3 * l)) c al / sv s (136 + 18 * b + 3 * l)))) 6 = sv s 6 := by
        unfold sv upd
        rw [if_neg (by omega), if_neg (by omega), sp_goes_at (by omega) (by omega)]
      rw [e2]
      by_cases e3 : sv s 6 < 12
      · exact ⟨sv s 6 + 1, by omega, by rw [if_pos e3]⟩
      · exact ⟨12, by omega, by rw [if_neg e3]⟩
    obtain ⟨n, hn, e⟩ := e
    have e4 := sv_of e (by omega)
    rw [e4]
    exact ⟨e, hn⟩
theorem sp_cuts_at {s : Nat → Int32} {l c al j : Nat} (hl : l < 6) : ∀ b, b ≤ 6 → (j < 129 ∧ j ≠ 6 ∨ 136 + 18 * b ≤ j ∧ j < 244) → sp_cuts s l c al b j = s j
  | 0, _, _ => rfl
  | b + 1, hb, h => by
    show sp_cut1 (sp_cuts s l c al b) l b c al j = s j
    rw [sp_cut1_at (by omega) (by omega) (by omega) (by omega) (by omega) (by omega)]
    exact sp_cuts_at hl b (by omega) (by omega)
theorem sp_cuts_6 {s : Nat → Int32} {l c al : Nat} (hl : l < 6) (h : s 6 = nI (sv s 6) ∧ sv s 6 ≤ 12) : ∀ b, b ≤ 6 → sp_cuts s l c al b 6 = nI (sv (sp_cuts s l c al b) 6) ∧ sv (sp_cuts s l c al b) 6 ≤ 12
  | 0, _ => h
  | b + 1, hb => sp_cut1_6 (by omega) hl (sp_cuts_6 hl h b (by omega))

set_option maxRecDepth 100000 in
set_option maxHeartbeats 4000000 in
theorem r_bottle {S : mm_S} {I : mm_I} {m n : Nat} {hs : Nat → Nat → Int32} {l : Int32} (hM : mm_ref S m) (hi : Inv (I (m + 1))) (hh : I m 4 = 0 → hist_r I m n hs) : mm_ci mX8_bottle [.ref m, .int l] S I (r_Q m n hs I (sp_bottle (I (m + 1)) l)) := by
  have hM0 := hM
  obtain ⟨hk, hp0, hp1, hp2, hp5, hp7, hp15, hk1, hk2, hk3, hk4, hk5, hk6⟩ := hM
  have hx : ∀ n, n < 316 → vp_in (nI n) 316 := fun n h => vp_in_nI h (by omega)
  refine mm_ci.of okX8_bottle rfl (Nat.le_of_ble_eq_true rfl) (lv := [(0, .ref m), (1, .int l)]) rfl ?_
  refine mm_aload_n dX8_bottle_0 rfl rfl ?_
  refine mm_iload_n dX8_bottle_1 rfl rfl ?_
  refine mm_Vi (N := mX8_isLot) (ci := 8) (as := [_]) dX8_bottle_2 lk_X8_81 okX8_isLot (by decide) rfl (by decide) rfl (by assumption) rfl (by decide) (r_isLot hM0) (fun r1 J1 hq => ?_)
  obtain ⟨rfl, hJ⟩ := hq
  subst J1
  refine mm_if_ne 11 dX8_bottle_5 (by decide) (fun c_5 => ?_) (fun c_5 => ?_)
  · skip
    have y1 := if_yes c_5
    obtain ⟨L, hLn, hL6, rfl, hLc⟩ := inv_l hi y1
    refine mm_aload_n dX8_bottle_11 rfl rfl ?_
    refine mm_iload_n dX8_bottle_12 rfl rfl ?_
    refine mm_Vi (N := mX8_isOpen) (ci := 8) (as := [_]) dX8_bottle_13 lk_X8_85 okX8_isOpen (by decide) rfl (by decide) rfl (by assumption) rfl (by decide) (r_isOpen hM0 hL6) (fun r1 J1 hq => ?_)
    obtain ⟨rfl, hJ⟩ := hq
    subst J1
    refine mm_if_ne 22 dX8_bottle_16 (by decide) (fun c_16 => ?_) (fun c_16 => ?_)
    · skip
      have y2 := if_yes c_16
      refine mm_aload_n dX8_bottle_22 rfl rfl ?_
      refine mm_Vv (N := mX8_changes) (ci := 8) (as := []) dX8_bottle_23 lk_X8_78 okX8_changes (by decide) rfl (by decide) rfl (by assumption) rfl (by decide) (r_changes hM0 hh) (fun J0 hc => ?_)
      have hs2 := hc.s
      have hlt := hi.2.1 L hL6
      have hok := hlt.2.1
      refine mm_aload_n dX8_bottle_26 rfl rfl ?_
      refine mm_iload_n dX8_bottle_27 rfl rfl ?_
      refine mm_Vv (N := mX8_loads) (ci := 8) (as := [_]) dX8_bottle_28 lk_X8_62 okX8_loads (by decide) rfl (by decide) rfl (by assumption) rfl (by decide) (inv_load hM0 (by rw [hs2]; exact hi) hL6) (fun J1 hw1 => ?_)
      obtain ⟨hw1, hf1⟩ := hw1
      rw [hs2] at hw1
      have hs1 : J1 (m + 1) = I (m + 1) := by rw [hf1.s, hs2]
      refine mm_aload_n dX8_bottle_31 rfl rfl ?_
      refine mm_Vi (N := mX8_all) (ci := 8) (as := []) dX8_bottle_32 lk_X8_58 okX8_all (by decide) rfl (by decide) rfl (by assumption) rfl (by decide) (r_all hM0 hw1 hok.1) (fun r3 J3 hq => ?_)
      obtain ⟨rfl, hJ⟩ := hq
      subst J3
      have hW := ws_sum_le (w := sw (I (m + 1)) L) (b := 2250) (sv (I (m + 1)) (9 + 20 * L)) (fun k _ => hok.2.2.1 k)
      have h12 := hok.1
      refine mm_bipush 90 dX8_bottle_35 rfl ?_
      refine mm_idiv dX8_bottle_37 (by decide) ?_
      refine mm_tope (y := nI (ws_sum (sw (I (m + 1)) L) (sv (I (m + 1)) (9 + 20 * L)) / 90)) (pk_div (d := 90) (by omega) (by omega) (by omega)) ?_
      refine mm_istore_n dX8_bottle_38 rfl (Nat.le_of_ble_eq_true rfl) ?_
      refine mm_aload_n dX8_bottle_39 rfl rfl ?_
      refine mm_iload_n dX8_bottle_40 rfl rfl ?_
      refine mm_Vi (N := mX8_allHeld) (ci := 8) (as := [_]) dX8_bottle_41 lk_X8_104 okX8_allHeld (by decide) rfl (by decide) rfl (by assumption) rfl (by decide) (r_allHeld (g := fun b => sv (I (m + 1)) (136 + 18 * b + 3 * L)) hM0 hL6 (by rw [hs1]; exact hi.1.2.1.1) hi.1.2.1.2 (fun b hb => by rw [hs1]; exact (inv_h hi hL6 (by have := hi.1.2.1.2; omega)).1)) (fun r3 J3 hq => ?_)
      obtain ⟨rfl, hJ⟩ := hq
      subst J3
      rw [hsum_nb hi hL6]
      have hsp : sp_bottle (I (m + 1)) (nI L) = (nI (cutK (I (m + 1)) L (ws_sum (sw (I (m + 1)) L) (sv (I (m + 1)) (9 + 20 * L)) / 90) (hsum (I (m + 1)) L) (sv (I (m + 1)) 1)),
          upd (upd (upd (upd (upd (sp_cuts (I (m + 1)) L (ws_sum (sw (I (m + 1)) L) (sv (I (m + 1)) (9 + 20 * L)) / 90) (hsum (I (m + 1)) L) (sv (I (m + 1)) 1)) (9 + 20 * L) 0) (13 + 20 * L) 1) (14 + 20 * L) (nI (ws_sum (sw (I (m + 1)) L) (sv (I (m + 1)) (9 + 20 * L)) / 90))) (15 + 20 * L) (nI (ws_sum (sw (I (m + 1)) L) (sv (I (m + 1)) (9 + 20 * L)) / 90))) 5
            (I (m + 1) 5 + nI (cutK (I (m + 1)) L (ws_sum (sw (I (m + 1)) L) (sv (I (m + 1)) (9 + 20 * L)) / 90) (hsum (I (m + 1)) L) (sv (I (m + 1)) 1)))) := by
        unfold sp_bottle
        rw [if_neg (fun q => q y1), hLc, if_neg (fun q => q ((inv_open hi hL6).mp y2))]
      have hih := fun b hb => inv_h (b := b) hi hL6 hb
      have hi5 := hi.1.2.2.2.1
      have hal : hsum (I (m + 1)) L ≤ 300 := hlt.2.2.2.2.2.2.1.1
      have hnb := hi.1.2.1
      have hcs : ws_sum (sw (I (m + 1)) L) (sv (I (m + 1)) (9 + 20 * L)) / 90 ≤ 300 := by omega
      generalize hsum (I (m + 1)) L = al at *
      generalize ws_sum (sw (I (m + 1)) L) (sv (I (m + 1)) (9 + 20 * L)) / 90 = cs at *
      have hg2 : r_fs m J0 J1 := ⟨fun c h1 h2 h3 => hf1.1 c h1 h3, hf1.2⟩
      have hgen : ∀ J, r_fs m J0 J → ∀ c, c ≠ m → c ≠ m + 1 → c ≠ m + 5 → J c = J0 c := fun J h => h.1
      clear hw1 hW hok hlt hf1
      generalize hsd : I (m + 1) = s at *
      generalize hnd : sv s 1 = nb at *
      have hK : ∀ b, b ≤ 6 → cutK s L cs al b ≤ b * 300 := fun b hb => ws_sum_le b (fun k hk => Nat.le_trans w_cut_le (hih k (by omega)).2.1)
      have hK6 := hK nb hnb.2
      have loop : ∀ (t b : Nat) (I2 : mm_I), b + t = nb → I2 (m + 1) = sp_cuts s L cs al b → r_fs m J0 I2 → mm_Gi mX8_bottle (r_Q m n hs I (sp_bottle s (nI L))) 51 [(5, .int (nI b)), (4, .int (nI (cutK s L cs al b))), (3, .int (nI al)), (2, .int (nI cs)), (0, .ref m), (1, .int (nI L))] [] S S I2 := by
        intro t
        induction t with
        | zero =>
          intro b I2 hbt g1 g2
          have e1 : I2 (m + 1) 1 = nI nb := by rw [g1, sp_cuts_at hL6 b (by omega) (by omega)]; exact hnb.1
          have e5 : I2 (m + 1) 5 = s 5 := by rw [g1, sp_cuts_at hL6 b (by omega) (by omega)]
          refine mm_iload dX8_bottle_51 rfl ?_
          refine mm_aload_n dX8_bottle_53 rfl rfl ?_
          refine mm_getR dX8_bottle_54 fl_X8_7 rfl (by assumption) (by assumption) ?_
          refine mm_iconst 1 dX8_bottle_57 rfl ?_
          refine mm_iald dX8_bottle_58 (by assumption) (hx 1 (by omega)) ?_
          refine mm_tope (y := nI nb) e1 ?_
          refine mm_icmp_ge 145 dX8_bottle_59 (by decide) (fun c_59 => ?_) (fun c_59 => absurd (nI_le (by omega) (by omega)) c_59)
          refine mm_aload_n dX8_bottle_145 rfl rfl ?_
          refine mm_getR dX8_bottle_146 fl_X8_7 rfl (by assumption) (by assumption) ?_
          refine mm_bipush 9 dX8_bottle_149 rfl ?_
          refine mm_bipush 20 dX8_bottle_151 rfl ?_
          refine mm_iload_n dX8_bottle_153 rfl rfl ?_
          refine mm_imul dX8_bottle_154 ?_
          refine mm_tope (y := nI (20 * L)) (pk_mul 20 L) ?_
          refine mm_iadd dX8_bottle_155 ?_
          refine mm_tope (y := nI (9 + 20 * L)) (nI_add 9 _) ?_
          refine mm_iconst 0 dX8_bottle_156 rfl ?_
          refine mm_iadd dX8_bottle_157 ?_
          refine mm_tope (y := nI (9 + 20 * L)) ((nI_add (9 + 20 * L) 0).trans (congrArg nI (by omega))) ?_
          refine mm_iconst 0 dX8_bottle_158 rfl ?_
          refine mm_iast dX8_bottle_159 (by assumption) (hx (9 + 20 * L) (by omega)) ?_
          rw [nI_clamp (by omega)]
          refine mm_aload_n dX8_bottle_160 rfl rfl ?_
          refine mm_getR dX8_bottle_161 fl_X8_7 rfl (by assumption) (by assumption) ?_
          refine mm_bipush 9 dX8_bottle_164 rfl ?_
          refine mm_bipush 20 dX8_bottle_166 rfl ?_
          refine mm_iload_n dX8_bottle_168 rfl rfl ?_
          refine mm_imul dX8_bottle_169 ?_
          refine mm_tope (y := nI (20 * L)) (pk_mul 20 L) ?_
          refine mm_iadd dX8_bottle_170 ?_
          refine mm_tope (y := nI (9 + 20 * L)) (nI_add 9 _) ?_
          refine mm_iconst 4 dX8_bottle_171 rfl ?_
          refine mm_iadd dX8_bottle_172 ?_
          refine mm_tope (y := nI (13 + 20 * L)) ((nI_add (9 + 20 * L) 4).trans (congrArg nI (by omega))) ?_
          refine mm_iconst 1 dX8_bottle_173 rfl ?_
          refine mm_iast dX8_bottle_174 (by assumption) (hx (13 + 20 * L) (by omega)) ?_
          rw [nI_clamp (by omega)]
          refine mm_aload_n dX8_bottle_175 rfl rfl ?_
          refine mm_getR dX8_bottle_176 fl_X8_7 rfl (by assumption) (by assumption) ?_
          refine mm_bipush 9 dX8_bottle_179 rfl ?_
          refine mm_bipush 20 dX8_bottle_181 rfl ?_
          refine mm_iload_n dX8_bottle_183 rfl rfl ?_
          refine mm_imul dX8_bottle_184 ?_
          refine mm_tope (y := nI (20 * L)) (pk_mul 20 L) ?_
          refine mm_iadd dX8_bottle_185 ?_
          refine mm_tope (y := nI (9 + 20 * L)) (nI_add 9 _) ?_
          refine mm_iconst 5 dX8_bottle_186 rfl ?_
          refine mm_iadd dX8_bottle_187 ?_
          refine mm_tope (y := nI (14 + 20 * L)) ((nI_add (9 + 20 * L) 5).trans (congrArg nI (by omega))) ?_
          refine mm_iload_n dX8_bottle_188 rfl rfl ?_
          refine mm_iast dX8_bottle_189 (by assumption) (hx (14 + 20 * L) (by omega)) ?_
          rw [nI_clamp (by omega)]
          refine mm_aload_n dX8_bottle_190 rfl rfl ?_
          refine mm_getR dX8_bottle_191 fl_X8_7 rfl (by assumption) (by assumption) ?_
          refine mm_bipush 9 dX8_bottle_194 rfl ?_
          refine mm_bipush 20 dX8_bottle_196 rfl ?_
          refine mm_iload_n dX8_bottle_198 rfl rfl ?_
          refine mm_imul dX8_bottle_199 ?_
          refine mm_tope (y := nI (20 * L)) (pk_mul 20 L) ?_
          refine mm_iadd dX8_bottle_200 ?_
          refine mm_tope (y := nI (9 + 20 * L)) (nI_add 9 _) ?_
          refine mm_bipush 6 dX8_bottle_201 rfl ?_
          refine mm_iadd dX8_bottle_203 ?_
          refine mm_tope (y := nI (15 + 20 * L)) ((nI_add (9 + 20 * L) 6).trans (congrArg nI (by omega))) ?_
          refine mm_iload_n dX8_bottle_204 rfl rfl ?_
          refine mm_iast dX8_bottle_205 (by assumption) (hx (15 + 20 * L) (by omega)) ?_
          rw [nI_clamp (by omega)]
          refine mm_aload_n dX8_bottle_206 rfl rfl ?_
          refine mm_getR dX8_bottle_207 fl_X8_7 rfl (by assumption) (by assumption) ?_
          refine mm_iconst 5 dX8_bottle_210 rfl ?_
          refine mm_dup2 dX8_bottle_211 rfl rfl ?_
          refine mm_iald dX8_bottle_212 (by assumption) (hx 5 (by omega)) ?_
          refine mm_tope (y := s 5) (by show mm_wr _ _ _ _ _ 5 = _; rw [mm_wr_k (by omega), mm_wr_k (by omega), mm_wr_k (by omega), mm_wr_k (by omega)]; exact e5) ?_
          refine mm_iload dX8_bottle_213 rfl ?_
          refine mm_iadd dX8_bottle_215 ?_
          refine mm_iast dX8_bottle_216 (by assumption) (hx 5 (by omega)) ?_
          refine mm_iload dX8_bottle_217 rfl ?_
          refine mm_iret dX8_bottle_219 rfl ?_
          have hb : b = nb := by omega
          subst hb
          refine ⟨rfl, _, rfl, ?_⟩
          rw [hsp]
          exact ⟨rfl, by rw [mm_wr_upd, mm_wr_upd, mm_wr_upd, mm_wr_upd, mm_wr_upd, g1]; rfl, r_op.yes (nI_pos' (by omega)) r_fr.rf hc (fun c q1 q2 q3 => by rw [mm_wr_row q2, mm_wr_row q2, mm_wr_row q2, mm_wr_row q2, mm_wr_row q2]; exact g2.1 c q1 q2 q3) (fun j hj => by rw [mm_wr_a (by omega), mm_wr_a (by omega), mm_wr_a (by omega), mm_wr_a (by omega), mm_wr_a (by omega)]; exact g2.2 j hj)⟩
        | succ t ih =>
          intro b I2 hbt g1 g2
          have hb6 : b < 6 := by omega
          have e1 : I2 (m + 1) 1 = nI nb := by rw [g1, sp_cuts_at hL6 b (by omega) (by omega)]; exact hnb.1
          have eh4 := hih b hb6
          have eh2 : sv (sp_cuts s L cs al b) (136 + 18 * b + 3 * L) = sv s (136 + 18 * b + 3 * L) ∧ sv (sp_cuts s L cs al b) (137 + 18 * b + 3 * L) = sv s (137 + 18 * b + 3 * L) := by
            unfold sv
            rw [sp_cuts_at hL6 b (by omega) (by omega), sp_cuts_at hL6 b (by omega) (by omega)]
            exact ⟨rfl, rfl⟩
          have eh3 : sp_cuts s L cs al b (136 + 18 * b + 3 * L) = s (136 + 18 * b + 3 * L) ∧ sp_cuts s L cs al b (137 + 18 * b + 3 * L) = s (137 + 18 * b + 3 * L) := by
            rw [sp_cuts_at hL6 b (by omega) (by omega), sp_cuts_at hL6 b (by omega) (by omega)]
            exact ⟨rfl, rfl⟩
          have eh : I2 (m + 1) (136 + 18 * b + 3 * L) = nI (sv s (136 + 18 * b + 3 * L)) ∧ True := ⟨by rw [g1, eh3.1]; exact eh4.1, trivial⟩
          have hcut := w_cut_le (h := sv s (136 + 18 * b + 3 * L)) (c := cs) (al := al)
          have h6 := sp_cuts_6 (c := cs) (al := al) hL6 hi5 b (by omega)
          refine mm_iload dX8_bottle_51 rfl ?_
          refine mm_aload_n dX8_bottle_53 rfl rfl ?_
          refine mm_getR dX8_bottle_54 fl_X8_7 rfl (by assumption) (by assumption) ?_
          refine mm_iconst 1 dX8_bottle_57 rfl ?_
          refine mm_iald dX8_bottle_58 (by assumption) (hx 1 (by omega)) ?_
          refine mm_tope (y := nI nb) e1 ?_
          refine mm_icmp_ge 145 dX8_bottle_59 (by decide) (fun c_59 => absurd c_59 (nI_ge (by omega) (by omega))) (fun c_59 => ?_)
          refine mm_aload_n dX8_bottle_62 rfl rfl ?_
          refine mm_iload dX8_bottle_63 rfl ?_
          refine mm_iload_n dX8_bottle_65 rfl rfl ?_
          refine mm_iload_n dX8_bottle_66 rfl rfl ?_
          refine mm_iload_n dX8_bottle_67 rfl rfl ?_
          refine mm_Vi (N := mX8_wouldCut) (ci := 8) (as := [_, _, _, _]) dX8_bottle_68 lk_X8_107 okX8_wouldCut (by decide) rfl (by decide) rfl (by assumption) rfl (by decide) (r_wouldCut hM0 hb6 hL6 eh.1 (by omega) (by omega) (by omega)) (fun r2 J2 hq => ?_)
          obtain ⟨rfl, hJ⟩ := hq
          subst J2
          refine mm_istore dX8_bottle_71 (Nat.le_of_ble_eq_true rfl) ?_
          refine mm_iload dX8_bottle_73 rfl ?_
          refine mm_if_le 139 dX8_bottle_75 (by decide) (fun c_75 => ?_) (fun c_75 => ?_)
          · skip
            have hk0 : w_cut (sv s (136 + 18 * b + 3 * L)) cs al = 0 := by
              rcases Nat.eq_zero_or_pos (w_cut (sv s (136 + 18 * b + 3 * L)) cs al) with e | e
              · exact e
              · exact absurd c_75 (nI_ge (a := 0) e (by omega))
            have hst : cutK s L cs al (b + 1) = cutK s L cs al b := by show cutK s L cs al b + w_cut (sv s (136 + 18 * b + 3 * L)) cs al = _; omega
            have g1b : I2 (m + 1) = sp_cuts s L cs al (b + 1) := by
              rw [g1]
              show _ = sp_cut1 (sp_cuts s L cs al b) L b cs al
              unfold sp_cut1
              rw [if_pos (by rw [eh2.1]; exact hk0)]
            have g2b := g2
            refine mm_iinc 1 dX8_bottle_139 rfl rfl (Nat.le_of_ble_eq_true rfl) ?_
            rw [nI_1]
            refine mm_goto 51 dX8_bottle_142 (by decide) ?_
            have ih2 := ih (b + 1) _ (by omega) g1b g2b
            first
              | exact mm_G.at (ih2) (mm_s1 rfl (mm_s1 rfl (mm_s1 rfl (mm_s1 rfl (mm_s1 rfl (mm_s1 rfl mm_s0))))))
              | (rw [hst] at ih2; exact mm_G.at (ih2) (mm_s1 rfl (mm_s1 rfl (mm_s1 rfl (mm_s1 rfl (mm_s1 rfl (mm_s1 rfl mm_s0)))))))
          · skip
            have hk0 : 0 < w_cut (sv s (136 + 18 * b + 3 * L)) cs al := by
              rcases Nat.eq_zero_or_pos (w_cut (sv s (136 + 18 * b + 3 * L)) cs al) with e | e
              · exact absurd (by rw [e]; decide) c_75
              · exact e
            refine mm_aload_n dX8_bottle_78 rfl rfl ?_
            refine mm_iload dX8_bottle_79 rfl ?_
            refine mm_iload_n dX8_bottle_81 rfl rfl ?_
            refine mm_iload dX8_bottle_82 rfl ?_
            refine mm_Vi (N := mX8_goes) (ci := 8) (as := [_, _, _]) dX8_bottle_84 lk_X8_111 okX8_goes (by decide) rfl (by decide) rfl (by assumption) rfl (by decide) (inv_goes hM0 hb6 hL6 (by rw [g1, eh2.1, eh2.2, eh3.1, eh3.2]; exact eh4) hk0 (by rw [g1, eh2.1]; exact w_cut_le)) (fun r3 J3 hq => ?_)
            obtain ⟨rfl, g3, g4⟩ := hq
            rw [g1, eh2.1, eh2.2]
            rw [g1] at g3
            generalize hK : w_cut (sv s (136 + 18 * b + 3 * L)) cs al = K at *
            refine mm_istore dX8_bottle_87 (Nat.le_of_ble_eq_true rfl) ?_
            refine mm_aload_n dX8_bottle_89 rfl rfl ?_
            refine mm_getR dX8_bottle_90 fl_X8_7 rfl (by assumption) (by assumption) ?_
            refine mm_sipush 129 dX8_bottle_93 rfl ?_
            refine mm_iload dX8_bottle_96 rfl ?_
            refine mm_iadd dX8_bottle_98 ?_
            refine mm_tope (y := nI (129 + b)) (nI_add 129 b) ?_
            refine mm_dup2 dX8_bottle_99 rfl rfl ?_
            refine mm_iald dX8_bottle_100 (by assumption) (hx (129 + b) (by omega)) ?_
            refine mm_tope (y := sp_cuts s L cs al b (129 + b)) (by rw [nI_clamp (by omega), g3, sp_goes_at (by omega) (by omega)]) ?_
            refine mm_iload dX8_bottle_101 rfl ?_
            refine mm_iadd dX8_bottle_103 ?_
            refine mm_iast dX8_bottle_104 (by assumption) (hx (129 + b) (by omega)) ?_
            rw [nI_clamp (by omega)]
            refine mm_aload_n dX8_bottle_105 rfl rfl ?_
            refine mm_getR dX8_bottle_106 fl_X8_7 rfl (by assumption) (by assumption) ?_
            refine mm_sipush 135 dX8_bottle_109 rfl ?_
            refine mm_dup2 dX8_bottle_112 rfl rfl ?_
            refine mm_iald dX8_bottle_113 (by assumption) (hx 135 (by omega)) ?_
            refine mm_tope (y := sp_cuts s L cs al b 135) (by show mm_wr _ _ _ _ _ 135 = _; rw [mm_wr_k (by omega), g3, sp_goes_at (by omega) (by omega)]) ?_
            refine mm_iload dX8_bottle_114 rfl ?_
            refine mm_isub dX8_bottle_116 ?_
            refine mm_iast dX8_bottle_117 (by assumption) (hx 135 (by omega)) ?_
            have e135 : (135 : Int32).toNatClampNeg = 135 := rfl
            rw [e135]
            have g5 : mm_wr (mm_wr J3 (m + 1) (129 + b) (sp_cuts s L cs al b (129 + b) + nI (sv s (137 + 18 * b + 3 * L) * K / sv s (136 + 18 * b + 3 * L)))) (m + 1) 135 (sp_cuts s L cs al b 135 - nI (sv s (137 + 18 * b + 3 * L) * K / sv s (136 + 18 * b + 3 * L))) (m + 1) = upd (upd (sp_goes (sp_cuts s L cs al b) b L K) (129 + b) (sp_cuts s L cs al b (129 + b) + nI (sv s (137 + 18 * b + 3 * L) * K / sv s (136 + 18 * b + 3 * L)))) 135 (sp_cuts s L cs al b 135 - nI (sv s (137 + 18 * b + 3 * L) * K / sv s (136 + 18 * b + 3 * L))) := by rw [mm_wr_upd, mm_wr_upd, g3]
            have g6 : ∀ c, c ≠ m + 1 → mm_wr (mm_wr J3 (m + 1) (129 + b) (sp_cuts s L cs al b (129 + b) + nI (sv s (137 + 18 * b + 3 * L) * K / sv s (136 + 18 * b + 3 * L)))) (m + 1) 135 (sp_cuts s L cs al b 135 - nI (sv s (137 + 18 * b + 3 * L) * K / sv s (136 + 18 * b + 3 * L))) c = I2 c := fun c hc => by rw [mm_wr_row hc, mm_wr_row hc, g4 c hc]
            generalize mm_wr (mm_wr J3 (m + 1) (129 + b) (sp_cuts s L cs al b (129 + b) + nI (sv s (137 + 18 * b + 3 * L) * K / sv s (136 + 18 * b + 3 * L)))) (m + 1) 135 (sp_cuts s L cs al b 135 - nI (sv s (137 + 18 * b + 3 * L) * K / sv s (136 + 18 * b + 3 * L))) = J5 at g5 g6 ⊢
            have e6 : J5 (m + 1) 6 = nI (sv (sp_cuts s L cs al b) 6) := by
              rw [g5]
              unfold upd
              rw [if_neg (by omega), if_neg (by omega), sp_goes_at (by omega) (by omega)]
              exact h6.1
            refine mm_aload_n dX8_bottle_118 rfl rfl ?_
            refine mm_iconst 2 dX8_bottle_119 rfl ?_
            refine mm_iload_n dX8_bottle_120 rfl rfl ?_
            refine mm_iload dX8_bottle_121 rfl ?_
            refine mm_iload dX8_bottle_123 rfl ?_
            refine mm_iload dX8_bottle_125 rfl ?_
            refine mm_ldc dX8_bottle_127 ct_X8_57 ?_
            refine mm_Vv (N := mX8_enters) (ci := 8) (as := [_, _, _, _, _, _]) dX8_bottle_129 lk_X8_114 okX8_enters (by decide) rfl (by decide) rfl (by assumption) rfl (by decide) (r_enters hM0 e6 h6.2) (fun J6 hq => ?_)
            obtain ⟨g7, g8⟩ := hq
            rw [g5] at g7
            have g1b : J6 (m + 1) = sp_cuts s L cs al (b + 1) := by
              rw [g7]
              show _ = sp_cut1 (sp_cuts s L cs al b) L b cs al
              unfold sp_cut1
              rw [eh2.1, eh2.2, hK, if_neg (by omega)]
            have g2b : r_fs m J0 J6 := ⟨fun c h1 h2 h3 => by rw [g8 c h2, g6 c h2]; exact g2.1 c h1 h2 h3, fun j hj => by rw [g8 m (by omega), g6 m (by omega)]; exact g2.2 j hj⟩
            have hst : cutK s L cs al (b + 1) = cutK s L cs al b + K := by rw [← hK]; rfl
            refine mm_iload dX8_bottle_132 rfl ?_
            refine mm_iload dX8_bottle_134 rfl ?_
            refine mm_iadd dX8_bottle_136 ?_
            refine mm_tope (y := nI (cutK s L cs al (b + 1))) (by rw [nI_add, hst]) ?_
            refine mm_istore dX8_bottle_137 (Nat.le_of_ble_eq_true rfl) ?_
            refine mm_iinc 1 dX8_bottle_139 rfl rfl (Nat.le_of_ble_eq_true rfl) ?_
            rw [nI_1]
            refine mm_goto 51 dX8_bottle_142 (by decide) ?_
            have ih2 := ih (b + 1) _ (by omega) g1b g2b
            first
              | exact mm_G.at (ih2) (mm_s1 rfl (mm_s1 rfl (mm_s1 rfl (mm_s1 rfl (mm_s1 rfl (mm_s1 rfl mm_s0))))))
              | (rw [hst] at ih2; exact mm_G.at (ih2) (mm_s1 rfl (mm_s1 rfl (mm_s1 rfl (mm_s1 rfl (mm_s1 rfl (mm_s1 rfl mm_s0)))))))
      refine mm_istore_n dX8_bottle_44 rfl (Nat.le_of_ble_eq_true rfl) ?_
      refine mm_iconst 0 dX8_bottle_45 rfl ?_
      refine mm_istore dX8_bottle_46 (Nat.le_of_ble_eq_true rfl) ?_
      refine mm_iconst 0 dX8_bottle_48 rfl ?_
      refine mm_istore dX8_bottle_49 (Nat.le_of_ble_eq_true rfl) ?_
      exact mm_G.at (loop nb 0 J1 (by omega) hs1 hg2) (mm_s1 rfl (mm_s1 rfl (mm_s1 rfl (mm_s1 rfl (mm_s1 rfl (mm_s1 rfl mm_s0))))))
    · skip
      have n2 := if_no c_16
      refine mm_ldc dX8_bottle_19 ct_X8_91 ?_
      refine mm_iret dX8_bottle_21 rfl ?_
      exact ⟨rfl, _, rfl, r_Q_err (by unfold sp_bottle; rw [if_neg (fun q => q y1), hLc, if_pos (fun q => n2 ((inv_open hi hL6).mpr q))]) (by decide)⟩
  · skip
    have n1 := if_no c_5
    refine mm_ldc dX8_bottle_8 ct_X8_76 ?_
    refine mm_iret dX8_bottle_10 rfl ?_
    exact ⟨rfl, _, rfl, r_Q_err (if_pos n1) (by decide)⟩
