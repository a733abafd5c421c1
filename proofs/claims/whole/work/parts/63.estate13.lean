/-! THE CLASS: the questions on a lot -/
theorem lot_held {I : mm_I} {e L : Nat} {s : Nat → Int32} (hs : est_at I e s) (hi : Inv s) (hL : L < 6) : is_sum (I (e + 7 + 6 * L + 3)) 6 = nI (hsum s L) := is_sum_nI 6 (fun b hb => by rw [((hs.2.2.2.2 L hL).2.1 b hb).1]; exact (inv_h hi hL hb).1)
theorem lot_deliv {I : mm_I} {e L : Nat} {s : Nat → Int32} (hs : est_at I e s) (hi : Inv s) (hL : L < 6) : is_sum (I (e + 7 + 6 * L + 5)) 6 = nI (gsum s L) := is_sum_nI 6 (fun b hb => by
  rw [((hs.2.2.2.2 L hL).2.1 b hb).2.2]
  have q := ((hi.2.1 L hL).2.2.2.2.2.2.2 b hb).1 2 (by omega)
  rw [show 136 + 18 * b + 3 * L + 2 = 138 + 18 * b + 3 * L by omega] at q
  exact q)
theorem lot_16 {s : Nat → Int32} {L : Nat} (hi : Inv s) (hL : L < 6) : s (16 + 20 * L) = nI (gsum s L) := by
  have hlt := hi.2.1 L hL
  have q := inv_f hlt 7 (by omega)
  rw [show 9 + 7 + 20 * L = 16 + 20 * L by omega, hlt.2.2.2.2.2.1.2.2] at q
  exact q
theorem lot_15 {s : Nat → Int32} {L : Nat} (hi : Inv s) (hL : L < 6) : s (15 + 20 * L) = nI (sv s (15 + 20 * L)) := by
  have q := inv_f (hi.2.1 L hL) 6 (by omega)
  rw [show 9 + 6 + 20 * L = 15 + 20 * L by omega] at q
  exact q
theorem lot_14 {s : Nat → Int32} {L : Nat} (hi : Inv s) (hL : L < 6) : s (14 + 20 * L) = nI (sv s (14 + 20 * L)) := by
  have q := inv_f (hi.2.1 L hL) 5 (by omega)
  rw [show 9 + 5 + 20 * L = 14 + 20 * L by omega] at q
  exact q
theorem lot_13 {s : Nat → Int32} {L : Nat} (hi : Inv s) (hL : L < 6) (h : ¬ s (13 + 20 * L) = 0) : s (13 + 20 * L) = 1 ∧ ¬ sv s (13 + 20 * L) = 0 := by
  have hlt := hi.2.1 L hL
  have h0 : ¬ sv s (13 + 20 * L) = 0 := fun q => h ((inv_open hi hL).mpr q)
  have q := inv_f hlt 4 (by omega)
  have h1 := hlt.2.2.2.2.1.1
  rw [show 9 + 4 + 20 * L = 13 + 20 * L by omega, show sv s (13 + 20 * L) = 1 by omega] at q
  exact ⟨q, h0⟩
theorem lot_wsum {I : mm_I} {e L : Nat} {s : Nat → Int32} (hs : est_at I e s) (hi : Inv s) (hL : L < 6) : is_sum (I (e + 7 + 6 * L + 1 + 1)) 12 = nI (ws_sum (sw s L) (sv s (9 + 20 * L))) := by
  have hok := (hi.2.1 L hL).2.1
  rw [is_sum_nI (g := sw s L) 12 (fun k hk => (hs.2.2.2.2 L hL).1.2.2 k hk), ws_sum_0 12 hok.1 (fun k h1 h2 => hok.2.2.2.2 k h1)]
theorem c_casesE {S : mm_S} {I : mm_I} {e : Nat} {s : Nat → Int32} {L : Nat} (hL6 : L < 6) (hE : mm_est S e) (hs : est_at I e s) (hi : Inv s) : mm_ci mX4_casesNow [.ref (e + 7 + 6 * L)] S I (fun q J => q = sq_lotF s L 3 ∧ J = I) := by
  obtain ⟨ek, ep0, ep1, ep2, ep3, ek1, ek2, ebk, ebar, elots⟩ := hE
  have hla := hs.2.2.2.2 L hL6
  have hlt := hi.2.1 L hL6
  by_cases h0 : s (13 + 20 * L) = 0
  · exact (c_casesNow_o (elots L hL6).2 (hla.2.2.1.trans h0) hla.1 hlt.2.1).to (fun q J h => ⟨h.1.trans (if_pos ((inv_open hi hL6).mp h0)).symm, h.2⟩)
  · obtain ⟨h1, h2⟩ := lot_13 hi hL6 h0
    refine (c_casesNow_b (elots L hL6).2 (hla.2.2.1.trans h1)).to (fun q J h => ⟨?_, h.2⟩)
    rw [h.1, hla.2.2.2.1, lot_deliv hs hi hL6, lot_15 hi hL6]
    have h14 := hlt.2.2.2.2.2.1
    have h16 := h14.2.2
    rw [pk_sub (by omega)]
    refine Eq.trans ?_ (if_neg h2).symm
    rw [lot_14 hi hL6]
    congr 1
    omega
theorem c_allHeldE {S : mm_S} {I : mm_I} {e : Nat} {s : Nat → Int32} {L : Nat} (hL6 : L < 6) (hE : mm_est S e) (hs : est_at I e s) (hi : Inv s) : mm_ci mX4_allHeld [.ref (e + 7 + 6 * L)] S I (fun q J => q = nI (hsum s L) ∧ J = I) := by
  obtain ⟨ek, ep0, ep1, ep2, ep3, ek1, ek2, ebk, ebar, elots⟩ := hE
  exact (c_allHeld (elots L hL6).2).to (fun q J h => ⟨h.1.trans (lot_held hs hi hL6), h.2⟩)
theorem c_allDelE {S : mm_S} {I : mm_I} {e : Nat} {s : Nat → Int32} {L : Nat} (hL6 : L < 6) (hE : mm_est S e) (hs : est_at I e s) (hi : Inv s) : mm_ci mX4_allDelivered [.ref (e + 7 + 6 * L)] S I (fun q J => q = s (16 + 20 * L) ∧ J = I) := by
  obtain ⟨ek, ep0, ep1, ep2, ep3, ek1, ek2, ebk, ebar, elots⟩ := hE
  exact (c_allDelivered (elots L hL6).2).to (fun q J h => ⟨(h.1.trans (lot_deliv hs hi hL6)).trans (lot_16 hi hL6).symm, h.2⟩)
theorem c_quoteE {S : mm_S} {I : mm_I} {e : Nat} {s : Nat → Int32} {L : Nat} (hL6 : L < 6) (hE : mm_est S e) (hs : est_at I e s) (hi : Inv s) : mm_ci mX4_quote [.ref (e + 7 + 6 * L)] S I (fun q J => q = nI (w_quote (sv s (11 + 20 * L)) (sv s (12 + 20 * L))) ∧ J = I) := by
  obtain ⟨ek, ep0, ep1, ep2, ep3, ek1, ek2, ebk, ebar, elots⟩ := hE
  have hla := hs.2.2.2.2 L hL6
  have hlt := hi.2.1 L hL6
  exact c_quote (elots L hL6).2 (hla.2.2.2.2.1.trans (inv_f hlt 2 (by omega))) (hla.2.2.2.2.2.trans (inv_f hlt 3 (by omega))) hlt.2.2.2.1.1 (by have := inv_t hlt; omega)

theorem int_out {x : Int32} {n : Int32} (h : ¬ (0 ≤ x ∧ x ≤ n)) : x.toInt < 0 ∨ n.toInt < x.toInt := by
  by_cases h0 : 0 ≤ x
  · refine Or.inr (Int32.lt_iff_toInt_lt.mp (Int32.not_le.mp fun q => h ⟨h0, q⟩))
  · exact Or.inl (Int32.lt_iff_toInt_lt.mp (Int32.not_le.mp h0))

set_option maxRecDepth 100000 in
set_option maxHeartbeats 4000000 in
theorem c_lotValue {S : mm_S} {I : mm_I} {e : Nat} {s : Nat → Int32} {l f : Int32} (hE : mm_est S e) (hs : est_at I e s) (hi : Inv s) : mm_ci mX2_lotValue [.ref e, .int l, .int f] S I (fun q J => q = sq_lotOf s l f ∧ J = I) := by
  have hE0 := hE
  obtain ⟨ek, ep0, ep1, ep2, ep3, ek1, ek2, ebk, ebar, elots⟩ := hE
  refine mm_ci.of okX2_lotValue rfl (Nat.le_of_ble_eq_true rfl) (lv := [(0, .ref e), (1, .int l), (2, .int f)]) rfl ?_
  refine mm_aload_n dX2_lotValue_0 rfl rfl ?_
  refine mm_iload_n dX2_lotValue_1 rfl rfl ?_
  refine mm_Vr (N := mX2_lotAt) (ci := 2) (as := [_]) dX2_lotValue_2 lk_X2_83 okX2_lotAt (by decide) rfl (by decide) rfl (by assumption) rfl (by decide) (c_lotAt hE0 hs hi) (fun r1 J1 hq => ?_)
  obtain ⟨rfl, hJ⟩ := hq
  subst J1
  by_cases y1 : 0 ≤ l ∧ l < s 0
  · rw [if_pos y1]
    obtain ⟨L, hLn, hL6, rfl, hLc⟩ := inv_l hi y1
    rw [hLc]
    obtain ⟨lk, lp0, lp1, lp2, lp3, lbar, lk3, lk4, lk5⟩ := (elots L hL6).2
    have hL := (elots L hL6).2
    have hlat := hs.2.2.2.2 L hL6
    have hok := (hi.2.1 L hL6).2.1
    have hok := (hi.2.1 L hL6).2.1
    have bk := lbar.1
    have lw := lbar.2.2
    have lbp := lbar.2.1
    refine mm_astore_n dX2_lotValue_5 rfl (Nat.le_of_ble_eq_true rfl) ?_
    refine mm_aload_n dX2_lotValue_6 rfl rfl ?_
    refine mm_ifnonnull 13 dX2_lotValue_7 (by decide) ?_
    refine mm_iload_n dX2_lotValue_13 rfl rfl ?_
    by_cases hf : 0 ≤ f ∧ f ≤ 9
    · obtain ⟨F, hF9, rfl, hFc⟩ := int_n (n := 9) rfl (by omega) hf
      have hsp0 : sq_lotOf s (nI L) (nI F) = sq_lotF s L F := by
        unfold sq_lotOf
        rw [if_neg (fun q => q ⟨y1, hf⟩), hLc, hFc]
      clear hf hFc
      rcases F with _ | F
      · skip
        have hsp : sq_lotOf s (nI L) (nI 0) = sq_lotF s L 0 := hsp0
        refine mm_tableIn 68 dX2_lotValue_14 (by decide) (by decide) rfl (by decide) ?_
        refine mm_aload_n dX2_lotValue_68 rfl rfl ?_
        refine mm_getR dX2_lotValue_69 fl_X2_87 rfl (by assumption) (by assumption) ?_
        refine mm_getI dX2_lotValue_72 fl_X2_119 rfl (by assumption) ?_
        refine mm_tope (y := s (9 + 20 * L)) (hlat.1.1.trans (inv_f (hi.2.1 L hL6) 0 (by omega)).symm) ?_
        refine mm_iret dX2_lotValue_75 rfl ?_
        refine ⟨rfl, _, rfl, Eq.trans ?_ hsp.symm, rfl⟩
        first
          | rfl
          | exact y4.symm
          | exact n4.symm
          | exact (if_pos y4).symm
          | exact (if_neg n4).symm
      · rcases F with _ | F
        · skip
          have hsp : sq_lotOf s (nI L) (nI 1) = sq_lotF s L 1 := hsp0
          refine mm_tableIn 76 dX2_lotValue_14 (by decide) (by decide) rfl (by decide) ?_
          refine mm_aload_n dX2_lotValue_76 rfl rfl ?_
          refine mm_getR dX2_lotValue_77 fl_X2_87 rfl (by assumption) (by assumption) ?_
          refine mm_getI dX2_lotValue_80 fl_X2_176 rfl (by assumption) ?_
          refine mm_tope (y := s (10 + 20 * L)) (hlat.1.2.1.trans (inv_f (hi.2.1 L hL6) 1 (by omega)).symm) ?_
          refine mm_iret dX2_lotValue_83 rfl ?_
          refine ⟨rfl, _, rfl, Eq.trans ?_ hsp.symm, rfl⟩
          first
            | rfl
            | exact y4.symm
            | exact n4.symm
            | exact (if_pos y4).symm
            | exact (if_neg n4).symm
        · rcases F with _ | F
          · skip
            have hsp : sq_lotOf s (nI L) (nI 2) = sq_lotF s L 2 := hsp0
            refine mm_tableIn 84 dX2_lotValue_14 (by decide) (by decide) rfl (by decide) ?_
            refine mm_aload_n dX2_lotValue_84 rfl rfl ?_
            refine mm_getR dX2_lotValue_85 fl_X2_87 rfl (by assumption) (by assumption) ?_
            refine mm_getR dX2_lotValue_88 fl_X2_179 rfl (by assumption) (by assumption) ?_
            refine mm_SNi (N := mX7_sum) (as := [_]) dX2_lotValue_91 lk_X2_182 okX7_sum (by decide) rfl rfl (by decide) (c_sum lw (by omega)) (fun r2 J2 hq => ?_)
            obtain ⟨rfl, hJ⟩ := hq
            subst J2
            rw [lot_wsum hs hi hL6]
            refine mm_iret dX2_lotValue_94 rfl ?_
            refine ⟨rfl, _, rfl, Eq.trans ?_ hsp.symm, rfl⟩
            first
              | rfl
              | exact y4.symm
              | exact n4.symm
              | exact (if_pos y4).symm
              | exact (if_neg n4).symm
          · rcases F with _ | F
            · skip
              have hsp : sq_lotOf s (nI L) (nI 3) = sq_lotF s L 3 := hsp0
              refine mm_tableIn 95 dX2_lotValue_14 (by decide) (by decide) rfl (by decide) ?_
              refine mm_aload_n dX2_lotValue_95 rfl rfl ?_
              refine mm_Vi (N := mX4_casesNow) (ci := 4) (as := []) dX2_lotValue_96 lk_X2_173 okX4_casesNow (by decide) rfl (by decide) rfl (by assumption) rfl (by decide) (c_casesE hL6 hE0 hs hi) (fun r2 J2 hq => ?_)
              obtain ⟨rfl, hJ⟩ := hq
              subst J2
              refine mm_iret dX2_lotValue_99 rfl ?_
              refine ⟨rfl, _, rfl, Eq.trans ?_ hsp.symm, rfl⟩
              first
                | rfl
                | exact y4.symm
                | exact n4.symm
                | exact (if_pos y4).symm
                | exact (if_neg n4).symm
            · rcases F with _ | F
              · skip
                have hsp : sq_lotOf s (nI L) (nI 4) = sq_lotF s L 4 := hsp0
                refine mm_tableIn 100 dX2_lotValue_14 (by decide) (by decide) rfl (by decide) ?_
                refine mm_aload_n dX2_lotValue_100 rfl rfl ?_
                refine mm_getI dX2_lotValue_101 fl_X2_126 rfl (by assumption) ?_
                refine mm_tope (y := s (13 + 20 * L)) hlat.2.2.1 ?_
                refine mm_if_eq 114 dX2_lotValue_104 (by decide) (fun c_104 => ?_) (fun c_104 => ?_)
                · skip
                  have y4 := (inv_open hi hL6).mp c_104
                  refine mm_aload_n dX2_lotValue_114 rfl rfl ?_
                  refine mm_aload_n dX2_lotValue_115 rfl rfl ?_
                  refine mm_Vi (N := mX2_expectedCases) (ci := 2) (as := [_]) dX2_lotValue_116 lk_X2_159 okX2_expectedCases (by decide) rfl (by decide) rfl (by assumption) rfl (by decide) (c_expectedCases hL6 hE0 hs hi) (fun r2 J2 hq => ?_)
                  obtain ⟨rfl, hJ⟩ := hq
                  subst J2
                  refine mm_iret dX2_lotValue_119 rfl ?_
                  refine ⟨rfl, _, rfl, Eq.trans ?_ hsp.symm, rfl⟩
                  first
                    | rfl
                    | exact y4.symm
                    | exact n4.symm
                    | exact (if_pos y4).symm
                    | exact (if_neg n4).symm
                · skip
                  have n4 := (lot_13 hi hL6 c_104).2
                  refine mm_aload_n dX2_lotValue_107 rfl rfl ?_
                  refine mm_getI dX2_lotValue_108 fl_X2_140 rfl (by assumption) ?_
                  refine mm_tope (y := s (15 + 20 * L)) hlat.2.2.2.1 ?_
                  refine mm_goto 119 dX2_lotValue_111 (by decide) ?_
                  refine mm_iret dX2_lotValue_119 rfl ?_
                  refine ⟨rfl, _, rfl, Eq.trans ?_ hsp.symm, rfl⟩
                  first
                    | rfl
                    | exact y4.symm
                    | exact n4.symm
                    | exact (if_pos y4).symm
                    | exact (if_neg n4).symm
              · rcases F with _ | F
                · skip
                  have hsp : sq_lotOf s (nI L) (nI 5) = sq_lotF s L 5 := hsp0
                  refine mm_tableIn 120 dX2_lotValue_14 (by decide) (by decide) rfl (by decide) ?_
                  refine mm_aload_n dX2_lotValue_120 rfl rfl ?_
                  refine mm_Vi (N := mX4_allHeld) (ci := 4) (as := []) dX2_lotValue_121 lk_X2_133 okX4_allHeld (by decide) rfl (by decide) rfl (by assumption) rfl (by decide) (c_allHeldE hL6 hE0 hs hi) (fun r2 J2 hq => ?_)
                  obtain ⟨rfl, hJ⟩ := hq
                  subst J2
                  refine mm_iret dX2_lotValue_124 rfl ?_
                  refine ⟨rfl, _, rfl, Eq.trans ?_ hsp.symm, rfl⟩
                  first
                    | rfl
                    | exact y4.symm
                    | exact n4.symm
                    | exact (if_pos y4).symm
                    | exact (if_neg n4).symm
                · rcases F with _ | F
                  · skip
                    have hsp : sq_lotOf s (nI L) (nI 6) = sq_lotF s L 6 := hsp0
                    refine mm_tableIn 125 dX2_lotValue_14 (by decide) (by decide) rfl (by decide) ?_
                    refine mm_aload_n dX2_lotValue_125 rfl rfl ?_
                    refine mm_Vi (N := mX4_quote) (ci := 4) (as := []) dX2_lotValue_126 lk_X2_109 okX4_quote (by decide) rfl (by decide) rfl (by assumption) rfl (by decide) (c_quoteE hL6 hE0 hs hi) (fun r2 J2 hq => ?_)
                    obtain ⟨rfl, hJ⟩ := hq
                    subst J2
                    refine mm_iret dX2_lotValue_129 rfl ?_
                    refine ⟨rfl, _, rfl, Eq.trans ?_ hsp.symm, rfl⟩
                    first
                      | rfl
                      | exact y4.symm
                      | exact n4.symm
                      | exact (if_pos y4).symm
                      | exact (if_neg n4).symm
                  · rcases F with _ | F
                    · skip
                      have hsp : sq_lotOf s (nI L) (nI 7) = sq_lotF s L 7 := hsp0
                      refine mm_tableIn 130 dX2_lotValue_14 (by decide) (by decide) rfl (by decide) ?_
                      refine mm_aload_n dX2_lotValue_130 rfl rfl ?_
                      refine mm_getI dX2_lotValue_131 fl_X2_106 rfl (by assumption) ?_
                      refine mm_tope (y := s (12 + 20 * L)) hlat.2.2.2.2.2 ?_
                      refine mm_iret dX2_lotValue_134 rfl ?_
                      refine ⟨rfl, _, rfl, Eq.trans ?_ hsp.symm, rfl⟩
                      first
                        | rfl
                        | exact y4.symm
                        | exact n4.symm
                        | exact (if_pos y4).symm
                        | exact (if_neg n4).symm
                    · rcases F with _ | F
                      · skip
                        have hsp : sq_lotOf s (nI L) (nI 8) = sq_lotF s L 8 := hsp0
                        refine mm_tableIn 135 dX2_lotValue_14 (by decide) (by decide) rfl (by decide) ?_
                        refine mm_aload_n dX2_lotValue_135 rfl rfl ?_
                        refine mm_getI dX2_lotValue_136 fl_X2_126 rfl (by assumption) ?_
                        refine mm_tope (y := s (13 + 20 * L)) hlat.2.2.1 ?_
                        refine mm_if_eq 146 dX2_lotValue_139 (by decide) (fun c_139 => ?_) (fun c_139 => ?_)
                        · skip
                          have y4 := c_139
                          refine mm_iconst 0 dX2_lotValue_146 rfl ?_
                          refine mm_iret dX2_lotValue_147 rfl ?_
                          refine ⟨rfl, _, rfl, Eq.trans ?_ hsp.symm, rfl⟩
                          first
                            | rfl
                            | exact y4.symm
                            | exact n4.symm
                            | exact (if_pos y4).symm
                            | exact (if_neg n4).symm
                        · skip
                          have n4 := (lot_13 hi hL6 c_139).1
                          refine mm_iconst 1 dX2_lotValue_142 rfl ?_
                          refine mm_goto 147 dX2_lotValue_143 (by decide) ?_
                          refine mm_iret dX2_lotValue_147 rfl ?_
                          refine ⟨rfl, _, rfl, Eq.trans ?_ hsp.symm, rfl⟩
                          first
                            | rfl
                            | exact y4.symm
                            | exact n4.symm
                            | exact (if_pos y4).symm
                            | exact (if_neg n4).symm
                      · rcases F with _ | F
                        · skip
                          have hsp : sq_lotOf s (nI L) (nI 9) = sq_lotF s L 9 := hsp0
                          refine mm_tableIn 148 dX2_lotValue_14 (by decide) (by decide) rfl (by decide) ?_
                          refine mm_aload_n dX2_lotValue_148 rfl rfl ?_
                          refine mm_Vi (N := mX4_allDelivered) (ci := 4) (as := []) dX2_lotValue_149 lk_X2_186 okX4_allDelivered (by decide) rfl (by decide) rfl (by assumption) rfl (by decide) (c_allDelE hL6 hE0 hs hi) (fun r2 J2 hq => ?_)
                          obtain ⟨rfl, hJ⟩ := hq
                          subst J2
                          refine mm_iret dX2_lotValue_152 rfl ?_
                          refine ⟨rfl, _, rfl, Eq.trans ?_ hsp.symm, rfl⟩
                          first
                            | rfl
                            | exact y4.symm
                            | exact n4.symm
                            | exact (if_pos y4).symm
                            | exact (if_neg n4).symm
                        · omega
    · have hout : f.toInt < 0 ∨ 9 < f.toInt := int_out hf
      refine mm_tableOut 153 dX2_lotValue_14 hout (by decide) ?_
      refine mm_ldc dX2_lotValue_153 ct_X2_81 ?_
      refine mm_iret dX2_lotValue_155 rfl ?_
      exact ⟨rfl, _, rfl, (if_pos (fun q => hf q.2)).symm, rfl⟩
  · rw [if_neg y1]
    refine mm_astoreN_n dX2_lotValue_5 rfl (Nat.le_of_ble_eq_true rfl) ?_
    refine mm_aloadN_n dX2_lotValue_6 rfl rfl ?_
    refine mm_ifnonnullN dX2_lotValue_7 ?_
    refine mm_ldc dX2_lotValue_10 ct_X2_81 ?_
    refine mm_iret dX2_lotValue_12 rfl ?_
    exact ⟨rfl, _, rfl, (if_pos (fun q => y1 q.1)).symm, rfl⟩
  
