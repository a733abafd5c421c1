/-! THE REFERENCE'S QUESTIONS: what the spec answers -/
def sq_lotF (s : Nat → Int32) (L : Nat) : Nat → Int32
  | 0 => s (9 + 20 * L)
  | 1 => s (10 + 20 * L)
  | 2 => nI (ws_sum (sw s L) (sv s (9 + 20 * L)))
  | 3 => if sv s (13 + 20 * L) = 0 then nI (ws_sum (sw s L) (sv s (9 + 20 * L)) / 90) else s (14 + 20 * L)
  | 4 => if sv s (13 + 20 * L) = 0 then nI (sp_exp s L) else s (15 + 20 * L)
  | 5 => nI (hsum s L)
  | 6 => nI (w_quote (sv s (11 + 20 * L)) (sv s (12 + 20 * L)))
  | 7 => s (12 + 20 * L)
  | 8 => s (13 + 20 * L)
  | _ => s (16 + 20 * L)
def sq_lotOf (s : Nat → Int32) (l f : Int32) : Int32 := if ¬ ((0 ≤ l ∧ l < s 0) ∧ (0 ≤ f ∧ f ≤ 9)) then -2000000001 else sq_lotF s l.toNatClampNeg f.toNatClampNeg
def sq_barrel (s : Nat → Int32) (l k : Int32) : Int32 := if ¬ ((0 ≤ l ∧ l < s 0) ∧ 0 ≤ k) then -2000000001 else if k.toNatClampNeg < sv s (9 + 20 * l.toNatClampNeg) then s (17 + 20 * l.toNatClampNeg + k.toNatClampNeg) else -2000000004
def sq_account (s : Nat → Int32) (a : Int32) : Int32 := if a = -1 then s 135 else if 0 ≤ a ∧ a < s 1 then s (129 + a.toNatClampNeg) else -2000000001
def sq_entry (s : Nat → Int32) (k f : Int32) : Int32 := if ¬ (0 ≤ k ∧ (0 ≤ f ∧ f ≤ 5)) then -2000000001 else if k.toNatClampNeg < sv s 6 then s (244 + 6 * k.toNatClampNeg + f.toNatClampNeg) else -2000000004
def w_at (s : Nat → Int32) (L t : Nat) : Nat := ws_sum (fun k => wb_it (sv s (10 + 20 * L)) t (sw s L k)) (sv s (9 + 20 * L)) / 90
def sq_cases (s : Nat → Int32) (l t : Int32) : Int32 := if ¬ ((0 ≤ l ∧ l < s 0) ∧ (0 ≤ t ∧ t ≤ 120)) then -2000000001 else if sv s (13 + 20 * l.toNatClampNeg) = 0 then nI (w_at s l.toNatClampNeg t.toNatClampNeg) else -2000000002
def sq_sellable (s : Nat → Int32) (l : Int32) : Int32 := if ¬ (0 ≤ l ∧ l < s 0) then -2000000001 else if sv s (13 + 20 * l.toNatClampNeg) = 0 then nI (sp_exp s l.toNatClampNeg - hsum s l.toNatClampNeg) else -2000000002
theorem int_any {x : Int32} (h : 0 ≤ x) : ∃ k, k < 2 ^ 31 ∧ x = nI k ∧ x.toNatClampNeg = k := by
  obtain ⟨k, h1, rfl⟩ := nI_of (Int32.not_lt.mpr h)
  exact ⟨k, h1, rfl, nI_clamp h1⟩
theorem inv_allHeld {S : mm_S} {I : mm_I} {m l : Nat} (hM : mm_ref S m) (hi : Inv (I (m + 1))) (hl : l < 6) : mm_ci mX8_allHeld [.ref m, .int (nI l)] S I (fun q J => q = nI (hsum (I (m + 1)) l) ∧ J = I) :=
  (r_allHeld (g := fun b => sv (I (m + 1)) (136 + 18 * b + 3 * l)) hM hl hi.1.2.1.1 hi.1.2.1.2 (fun b hb => (inv_h hi hl (by have := hi.1.2.1.2; omega)).1)).to (fun q J h => ⟨by rw [← hsum_nb hi hl]; exact h.1, h.2⟩)
theorem sp_exp_le {s : Nat → Int32} {l : Nat} (hi : Inv s) (hl : l < 6) : sp_exp s l ≤ 300 := by
  have hok := (hi.2.1 l hl).2.1
  have := ws_sum_le (w := fun k => wb_it (sv s (10 + 20 * l)) (sv s 8) (sw s l k)) (b := 2250) (sv s (9 + 20 * l)) (fun k _ => Nat.le_trans (wb_it_le _ _) (hok.2.2.1 k))
  have h12 := hok.1
  have e1 : ws_sum (fun k => wb_it (sv s (10 + 20 * l)) (sv s 8) (sw s l k)) (sv s (9 + 20 * l)) / 90 ≤ 300 := by omega
  unfold sp_exp
  exact Nat.div_le_of_le_mul (Nat.le_trans (Nat.mul_le_mul e1 (Nat.sub_le 100 _)) (by omega))
theorem inv_expected {S : mm_S} {I : mm_I} {m l : Nat} (hM : mm_ref S m) (hi : Inv (I (m + 1))) (hl : l < 6) : mm_ci mX8_expected [.ref m, .int (nI l)] S I (fun q J => q = nI (sp_exp (I (m + 1)) l) ∧ r_fr I J m) := by
  have hlt := hi.2.1 l hl
  have hok := hlt.2.1
  exact r_expected (w := sw (I (m + 1)) l) hM hl (inv_f hlt 0 (by omega)) hok.1 (fun k hk => inv_w hlt hk) hok.2.1 (fun k _ => hok.2.2.1 k) hok.2.2.2.1 (inv_f hlt 1 (by omega)) hi.1.2.2.2.2.1.1 hi.1.2.2.2.2.1.2 hi.1.2.2.2.2.2.1 hi.1.2.2.2.2.2.2
theorem inv_casesIn {S : mm_S} {I : mm_I} {m l t : Nat} (hM : mm_ref S m) (hi : Inv (I (m + 1))) (hl : l < 6) (ht : t < 1000) (hw : rw_at I m (sv (I (m + 1)) (9 + 20 * l)) (sw (I (m + 1)) l)) : mm_ci mX8_casesIn [.ref m, .int (nI l), .int (nI t)] S I (fun q J => q = nI (w_at (I (m + 1)) l t) ∧ rw_at J m (sv (I (m + 1)) (9 + 20 * l)) (fun k => wb_it (sv (I (m + 1)) (10 + 20 * l)) t (sw (I (m + 1)) l k)) ∧ r_fr I J m) := by
  have hlt := hi.2.1 l hl
  have hok := hlt.2.1
  exact r_casesIn hM hl hw hok.1 hok.2.1 (fun k _ => hok.2.2.1 k) hok.2.2.2.1 (inv_f hlt 1 (by omega)) ht
theorem inv_W {s : Nat → Int32} {l : Nat} (hi : Inv s) (hl : l < 6) : ws_sum (sw s l) (sv s (9 + 20 * l)) ≤ 27000 := by
  have := (hi.2.1 l hl).2.2.2.1.2
  omega
theorem inv_quote {S : mm_S} {I : mm_I} {m l : Nat} (hM : mm_ref S m) (hi : Inv (I (m + 1))) (hl : l < 6) : mm_ci mX8_quote [.ref m, .int (nI l)] S I (fun q J => q = nI (w_quote (sv (I (m + 1)) (11 + 20 * l)) (sv (I (m + 1)) (12 + 20 * l))) ∧ J = I) := by
  have hlt := hi.2.1 l hl
  exact r_quote hM hl (inv_f hlt 2 (by omega)) (inv_f hlt 3 (by omega)) hlt.2.2.2.1.1 (by have := inv_t hlt; omega)

set_option maxRecDepth 100000 in
set_option maxHeartbeats 4000000 in
theorem r_lotOf {S : mm_S} {I : mm_I} {m : Nat} {l f : Int32} (hM : mm_ref S m) (hi : Inv (I (m + 1))) : mm_ci mX8_lotOf [.ref m, .int l, .int f] S I (fun q J => q = sq_lotOf (I (m + 1)) l f ∧ r_fr I J m) := by
  have hM0 := hM
  obtain ⟨hk, hp0, hp1, hp2, hp5, hp7, hp15, hk1, hk2, hk3, hk4, hk5, hk6⟩ := hM
  have hx : ∀ n, n < 316 → vp_in (nI n) 316 := fun n h => vp_in_nI h (by omega)
  refine mm_ci.of okX8_lotOf rfl (Nat.le_of_ble_eq_true rfl) (lv := [(0, .ref m), (1, .int l), (2, .int f)]) rfl ?_
  refine mm_aload_n dX8_lotOf_0 rfl rfl ?_
  refine mm_iload_n dX8_lotOf_1 rfl rfl ?_
  refine mm_Vi (N := mX8_isLot) (ci := 8) (as := [_]) dX8_lotOf_2 lk_X8_81 okX8_isLot (by decide) rfl (by decide) rfl (by assumption) rfl (by decide) (r_isLot hM0) (fun r1 J1 hq => ?_)
  obtain ⟨rfl, hJ⟩ := hq
  subst J1
  refine mm_if_eq 18 dX8_lotOf_5 (by decide) (fun c_5 => ?_) (fun c_5 => ?_)
  · skip
    have n1 := if_no c_5
    refine mm_ldc dX8_lotOf_18 ct_X8_76 ?_
    refine mm_iret dX8_lotOf_20 rfl ?_
    first
      | exact ⟨rfl, _, rfl, (if_pos (fun q => n1 q.1)).symm, r_fr.rf⟩
      | exact ⟨rfl, _, rfl, (if_pos (fun q => n2 q.2)).symm, r_fr.rf⟩
  · skip
    have y1 := if_yes c_5
    obtain ⟨L, hLn, hL6, rfl, hLc⟩ := inv_l hi y1
    refine mm_iload_n dX8_lotOf_8 rfl rfl ?_
    refine mm_iconst 0 dX8_lotOf_9 rfl ?_
    refine mm_bipush 9 dX8_lotOf_10 rfl ?_
    refine mm_Si (N := mX8_in) (as := [_, _, _]) dX8_lotOf_12 lk_X8_72 okX8_in (by decide) rfl rfl (by decide) r_in (fun r1 J1 hq => ?_)
    obtain ⟨rfl, hJ⟩ := hq
    subst J1
    refine mm_if_ne 21 dX8_lotOf_15 (by decide) (fun c_15 => ?_) (fun c_15 => ?_)
    · skip
      have y2 := if_yes c_15
      obtain ⟨F, hF9, rfl, hFc⟩ := int_n (n := 9) rfl (by omega) y2
      have hsp0 : sq_lotOf (I (m + 1)) (nI L) (nI F) = sq_lotF (I (m + 1)) L F := by
        unfold sq_lotOf
        rw [if_neg (fun q => q ⟨y1, y2⟩), hLc, hFc]
      clear y2 c_15 hFc
      refine mm_aload_n dX8_lotOf_21 rfl rfl ?_
      refine mm_iload_n dX8_lotOf_22 rfl rfl ?_
      refine mm_Vv (N := mX8_loads) (ci := 8) (as := [_]) dX8_lotOf_23 lk_X8_62 okX8_loads (by decide) rfl (by decide) rfl (by assumption) rfl (by decide) (inv_load hM0 hi hL6) (fun J1 hw1 => ?_)
      obtain ⟨hw1, hf1⟩ := hw1
      have hs1 := hf1.s
      have hlt := hi.2.1 L hL6
      have hok := hlt.2.1
      have hW := inv_W hi hL6
      refine mm_iload_n dX8_lotOf_26 rfl rfl ?_
      rcases F with _ | F
      · skip
        have hsp : sq_lotOf (I (m + 1)) (nI L) (nI 0) = sq_lotF (I (m + 1)) L 0 := hsp0
        refine mm_tableIn 76 dX8_lotOf_27 (by decide) (by decide) rfl (by decide) ?_
        refine mm_aload_n dX8_lotOf_76 rfl rfl ?_
        refine mm_iload_n dX8_lotOf_77 rfl rfl ?_
        refine mm_iload_n dX8_lotOf_78 rfl rfl ?_
        refine mm_Vi (N := mX8_of) (ci := 8) (as := [_, _]) dX8_lotOf_79 lk_X8_36 okX8_of (by decide) rfl (by decide) rfl (by assumption) rfl (by decide) (r_of (f := 0) hM0 hL6 (by omega)) (fun r4 J4 hq => ?_)
        obtain ⟨rfl, hJ⟩ := hq
        subst J4
        rw [hs1]
        refine mm_iret dX8_lotOf_82 rfl ?_
        refine ⟨rfl, _, rfl, ?_, hf1⟩
        rw [hsp]
        first
          | rfl
          | exact (if_pos y4).symm
          | exact (if_neg n4).symm
      · rcases F with _ | F
        · skip
          have hsp : sq_lotOf (I (m + 1)) (nI L) (nI 1) = sq_lotF (I (m + 1)) L 1 := hsp0
          refine mm_tableIn 76 dX8_lotOf_27 (by decide) (by decide) rfl (by decide) ?_
          refine mm_aload_n dX8_lotOf_76 rfl rfl ?_
          refine mm_iload_n dX8_lotOf_77 rfl rfl ?_
          refine mm_iload_n dX8_lotOf_78 rfl rfl ?_
          refine mm_Vi (N := mX8_of) (ci := 8) (as := [_, _]) dX8_lotOf_79 lk_X8_36 okX8_of (by decide) rfl (by decide) rfl (by assumption) rfl (by decide) (r_of (f := 1) hM0 hL6 (by omega)) (fun r4 J4 hq => ?_)
          obtain ⟨rfl, hJ⟩ := hq
          subst J4
          rw [hs1, show 9 + 20 * L + 1 = 10 + 20 * L by omega]
          refine mm_iret dX8_lotOf_82 rfl ?_
          refine ⟨rfl, _, rfl, ?_, hf1⟩
          rw [hsp]
          first
            | rfl
            | exact (if_pos y4).symm
            | exact (if_neg n4).symm
        · rcases F with _ | F
          · skip
            have hsp : sq_lotOf (I (m + 1)) (nI L) (nI 2) = sq_lotF (I (m + 1)) L 2 := hsp0
            refine mm_tableIn 83 dX8_lotOf_27 (by decide) (by decide) rfl (by decide) ?_
            refine mm_aload_n dX8_lotOf_83 rfl rfl ?_
            refine mm_Vi (N := mX8_all) (ci := 8) (as := []) dX8_lotOf_84 lk_X8_58 okX8_all (by decide) rfl (by decide) rfl (by assumption) rfl (by decide) (r_all hM0 hw1 hok.1) (fun r5 J5 hq => ?_)
            obtain ⟨rfl, hJ⟩ := hq
            subst J5
            refine mm_iret dX8_lotOf_87 rfl ?_
            refine ⟨rfl, _, rfl, ?_, hf1⟩
            rw [hsp]
            first
              | rfl
              | exact (if_pos y4).symm
              | exact (if_neg n4).symm
          · rcases F with _ | F
            · skip
              have hsp : sq_lotOf (I (m + 1)) (nI L) (nI 3) = sq_lotF (I (m + 1)) L 3 := hsp0
              refine mm_tableIn 88 dX8_lotOf_27 (by decide) (by decide) rfl (by decide) ?_
              refine mm_aload_n dX8_lotOf_88 rfl rfl ?_
              refine mm_iload_n dX8_lotOf_89 rfl rfl ?_
              refine mm_Vi (N := mX8_isOpen) (ci := 8) (as := [_]) dX8_lotOf_90 lk_X8_85 okX8_isOpen (by decide) rfl (by decide) rfl (by assumption) rfl (by decide) (r_isOpen hM0 hL6) (fun r3 J3 hq => ?_)
              obtain ⟨rfl, hJ⟩ := hq
              subst J3
              rw [hs1]
              refine mm_if_eq 106 dX8_lotOf_93 (by decide) (fun c_93 => ?_) (fun c_93 => ?_)
              · skip
                have n4 := if_no c_93
                have n4 : ¬ sv (I (m + 1)) (13 + 20 * L) = 0 := fun q => n4 ((inv_open hi hL6).mpr q)
                refine mm_aload_n dX8_lotOf_106 rfl rfl ?_
                refine mm_iload_n dX8_lotOf_107 rfl rfl ?_
                refine mm_iconst 5 dX8_lotOf_108 rfl ?_
                refine mm_Vi (N := mX8_of) (ci := 8) (as := [_, _]) dX8_lotOf_109 lk_X8_36 okX8_of (by decide) rfl (by decide) rfl (by assumption) rfl (by decide) (r_of (f := 5) hM0 hL6 (by omega)) (fun r4 J4 hq => ?_)
                obtain ⟨rfl, hJ⟩ := hq
                subst J4
                rw [hs1, show 9 + 20 * L + 5 = 14 + 20 * L by omega]
                refine mm_iret dX8_lotOf_112 rfl ?_
                refine ⟨rfl, _, rfl, ?_, hf1⟩
                rw [hsp]
                first
                  | rfl
                  | exact (if_pos y4).symm
                  | exact (if_neg n4).symm
              · skip
                have y4 := if_yes c_93
                have y4 := (inv_open hi hL6).mp y4
                refine mm_aload_n dX8_lotOf_96 rfl rfl ?_
                refine mm_Vi (N := mX8_all) (ci := 8) (as := []) dX8_lotOf_97 lk_X8_58 okX8_all (by decide) rfl (by decide) rfl (by assumption) rfl (by decide) (r_all hM0 hw1 hok.1) (fun r5 J5 hq => ?_)
                obtain ⟨rfl, hJ⟩ := hq
                subst J5
                refine mm_bipush 90 dX8_lotOf_100 rfl ?_
                refine mm_idiv dX8_lotOf_102 (by decide) ?_
                refine mm_tope (y := nI (ws_sum (sw (I (m + 1)) L) (sv (I (m + 1)) (9 + 20 * L)) / 90)) (pk_div (d := 90) (by omega) (by omega) (by omega)) ?_
                refine mm_goto 112 dX8_lotOf_103 (by decide) ?_
                refine mm_iret dX8_lotOf_112 rfl ?_
                refine ⟨rfl, _, rfl, ?_, hf1⟩
                rw [hsp]
                first
                  | rfl
                  | exact (if_pos y4).symm
                  | exact (if_neg n4).symm
            · rcases F with _ | F
              · skip
                have hsp : sq_lotOf (I (m + 1)) (nI L) (nI 4) = sq_lotF (I (m + 1)) L 4 := hsp0
                refine mm_tableIn 113 dX8_lotOf_27 (by decide) (by decide) rfl (by decide) ?_
                refine mm_aload_n dX8_lotOf_113 rfl rfl ?_
                refine mm_iload_n dX8_lotOf_114 rfl rfl ?_
                refine mm_Vi (N := mX8_isOpen) (ci := 8) (as := [_]) dX8_lotOf_115 lk_X8_85 okX8_isOpen (by decide) rfl (by decide) rfl (by assumption) rfl (by decide) (r_isOpen hM0 hL6) (fun r3 J3 hq => ?_)
                obtain ⟨rfl, hJ⟩ := hq
                subst J3
                rw [hs1]
                refine mm_if_eq 129 dX8_lotOf_118 (by decide) (fun c_118 => ?_) (fun c_118 => ?_)
                · skip
                  have n4 := if_no c_118
                  have n4 : ¬ sv (I (m + 1)) (13 + 20 * L) = 0 := fun q => n4 ((inv_open hi hL6).mpr q)
                  refine mm_aload_n dX8_lotOf_129 rfl rfl ?_
                  refine mm_iload_n dX8_lotOf_130 rfl rfl ?_
                  refine mm_bipush 6 dX8_lotOf_131 rfl ?_
                  refine mm_Vi (N := mX8_of) (ci := 8) (as := [_, _]) dX8_lotOf_133 lk_X8_36 okX8_of (by decide) rfl (by decide) rfl (by assumption) rfl (by decide) (r_of (f := 6) hM0 hL6 (by omega)) (fun r4 J4 hq => ?_)
                  obtain ⟨rfl, hJ⟩ := hq
                  subst J4
                  rw [hs1, show 9 + 20 * L + 6 = 15 + 20 * L by omega]
                  refine mm_iret dX8_lotOf_136 rfl ?_
                  refine ⟨rfl, _, rfl, ?_, hf1⟩
                  rw [hsp]
                  first
                    | rfl
                    | exact (if_pos y4).symm
                    | exact (if_neg n4).symm
                · skip
                  have y4 := if_yes c_118
                  have y4 := (inv_open hi hL6).mp y4
                  refine mm_aload_n dX8_lotOf_121 rfl rfl ?_
                  refine mm_iload_n dX8_lotOf_122 rfl rfl ?_
                  refine mm_Vi (N := mX8_expected) (ci := 8) (as := [_]) dX8_lotOf_123 lk_X8_125 okX8_expected (by decide) rfl (by decide) rfl (by assumption) rfl (by decide) (inv_expected hM0 (by rw [hs1]; exact hi) hL6) (fun r6 J6 hq => ?_)
                  obtain ⟨rfl, hf2⟩ := hq
                  rw [hs1]
                  have hf1 := hf1.tr hf2
                  refine mm_goto 136 dX8_lotOf_126 (by decide) ?_
                  refine mm_iret dX8_lotOf_136 rfl ?_
                  refine ⟨rfl, _, rfl, ?_, hf1⟩
                  rw [hsp]
                  first
                    | rfl
                    | exact (if_pos y4).symm
                    | exact (if_neg n4).symm
              · rcases F with _ | F
                · skip
                  have hsp : sq_lotOf (I (m + 1)) (nI L) (nI 5) = sq_lotF (I (m + 1)) L 5 := hsp0
                  refine mm_tableIn 137 dX8_lotOf_27 (by decide) (by decide) rfl (by decide) ?_
                  refine mm_aload_n dX8_lotOf_137 rfl rfl ?_
                  refine mm_iload_n dX8_lotOf_138 rfl rfl ?_
                  refine mm_Vi (N := mX8_allHeld) (ci := 8) (as := [_]) dX8_lotOf_139 lk_X8_104 okX8_allHeld (by decide) rfl (by decide) rfl (by assumption) rfl (by decide) (inv_allHeld hM0 (by rw [hs1]; exact hi) hL6) (fun r7 J7 hq => ?_)
                  obtain ⟨rfl, hJ⟩ := hq
                  subst J7
                  rw [hs1]
                  refine mm_iret dX8_lotOf_142 rfl ?_
                  refine ⟨rfl, _, rfl, ?_, hf1⟩
                  rw [hsp]
                  first
                    | rfl
                    | exact (if_pos y4).symm
                    | exact (if_neg n4).symm
                · rcases F with _ | F
                  · skip
                    have hsp : sq_lotOf (I (m + 1)) (nI L) (nI 6) = sq_lotF (I (m + 1)) L 6 := hsp0
                    refine mm_tableIn 143 dX8_lotOf_27 (by decide) (by decide) rfl (by decide) ?_
                    refine mm_aload_n dX8_lotOf_143 rfl rfl ?_
                    refine mm_iload_n dX8_lotOf_144 rfl rfl ?_
                    refine mm_Vi (N := mX8_quote) (ci := 8) (as := [_]) dX8_lotOf_145 lk_X8_95 okX8_quote (by decide) rfl (by decide) rfl (by assumption) rfl (by decide) (inv_quote hM0 (by rw [hs1]; exact hi) hL6) (fun r7 J7 hq => ?_)
                    obtain ⟨rfl, hJ⟩ := hq
                    subst J7
                    rw [hs1]
                    refine mm_iret dX8_lotOf_148 rfl ?_
                    refine ⟨rfl, _, rfl, ?_, hf1⟩
                    rw [hsp]
                    first
                      | rfl
                      | exact (if_pos y4).symm
                      | exact (if_neg n4).symm
                  · rcases F with _ | F
                    · skip
                      have hsp : sq_lotOf (I (m + 1)) (nI L) (nI 7) = sq_lotF (I (m + 1)) L 7 := hsp0
                      refine mm_tableIn 149 dX8_lotOf_27 (by decide) (by decide) rfl (by decide) ?_
                      refine mm_aload_n dX8_lotOf_149 rfl rfl ?_
                      refine mm_iload_n dX8_lotOf_150 rfl rfl ?_
                      refine mm_iconst 3 dX8_lotOf_151 rfl ?_
                      refine mm_Vi (N := mX8_of) (ci := 8) (as := [_, _]) dX8_lotOf_152 lk_X8_36 okX8_of (by decide) rfl (by decide) rfl (by assumption) rfl (by decide) (r_of (f := 3) hM0 hL6 (by omega)) (fun r4 J4 hq => ?_)
                      obtain ⟨rfl, hJ⟩ := hq
                      subst J4
                      rw [hs1, show 9 + 20 * L + 3 = 12 + 20 * L by omega]
                      refine mm_iret dX8_lotOf_155 rfl ?_
                      refine ⟨rfl, _, rfl, ?_, hf1⟩
                      rw [hsp]
                      first
                        | rfl
                        | exact (if_pos y4).symm
                        | exact (if_neg n4).symm
                    · rcases F with _ | F
                      · skip
                        have hsp : sq_lotOf (I (m + 1)) (nI L) (nI 8) = sq_lotF (I (m + 1)) L 8 := hsp0
                        refine mm_tableIn 156 dX8_lotOf_27 (by decide) (by decide) rfl (by decide) ?_
                        refine mm_aload_n dX8_lotOf_156 rfl rfl ?_
                        refine mm_iload_n dX8_lotOf_157 rfl rfl ?_
                        refine mm_iconst 4 dX8_lotOf_158 rfl ?_
                        refine mm_Vi (N := mX8_of) (ci := 8) (as := [_, _]) dX8_lotOf_159 lk_X8_36 okX8_of (by decide) rfl (by decide) rfl (by assumption) rfl (by decide) (r_of (f := 4) hM0 hL6 (by omega)) (fun r4 J4 hq => ?_)
                        obtain ⟨rfl, hJ⟩ := hq
                        subst J4
                        rw [hs1, show 9 + 20 * L + 4 = 13 + 20 * L by omega]
                        refine mm_iret dX8_lotOf_162 rfl ?_
                        refine ⟨rfl, _, rfl, ?_, hf1⟩
                        rw [hsp]
                        first
                          | rfl
                          | exact (if_pos y4).symm
                          | exact (if_neg n4).symm
                      · rcases F with _ | F
                        · skip
                          have hsp : sq_lotOf (I (m + 1)) (nI L) (nI 9) = sq_lotF (I (m + 1)) L 9 := hsp0
                          refine mm_tableOut 163 dX8_lotOf_27 (Or.inr (by decide)) (by decide) ?_
                          refine mm_aload_n dX8_lotOf_163 rfl rfl ?_
                          refine mm_iload_n dX8_lotOf_164 rfl rfl ?_
                          refine mm_bipush 7 dX8_lotOf_165 rfl ?_
                          refine mm_Vi (N := mX8_of) (ci := 8) (as := [_, _]) dX8_lotOf_167 lk_X8_36 okX8_of (by decide) rfl (by decide) rfl (by assumption) rfl (by decide) (r_of (f := 7) hM0 hL6 (by omega)) (fun r4 J4 hq => ?_)
                          obtain ⟨rfl, hJ⟩ := hq
                          subst J4
                          rw [hs1, show 9 + 20 * L + 7 = 16 + 20 * L by omega]
                          refine mm_iret dX8_lotOf_170 rfl ?_
                          refine ⟨rfl, _, rfl, ?_, hf1⟩
                          rw [hsp]
                          first
                            | rfl
                            | exact (if_pos y4).symm
                            | exact (if_neg n4).symm
                        · omega
    · skip
      have n2 := if_no c_15
      refine mm_ldc dX8_lotOf_18 ct_X8_76 ?_
      refine mm_iret dX8_lotOf_20 rfl ?_
      first
        | exact ⟨rfl, _, rfl, (if_pos (fun q => n1 q.1)).symm, r_fr.rf⟩
        | exact ⟨rfl, _, rfl, (if_pos (fun q => n2 q.2)).symm, r_fr.rf⟩
set_option maxRecDepth 100000 in
set_option maxHeartbeats 4000000 in
theorem r_barrel {S : mm_S} {I : mm_I} {m : Nat} {l k : Int32} (hM : mm_ref S m) (hi : Inv (I (m + 1))) : mm_ci mX8_barrel [.ref m, .int l, .int k] S I (fun q J => q = sq_barrel (I (m + 1)) l k ∧ r_fr I J m) := by
  have hM0 := hM
  obtain ⟨hk, hp0, hp1, hp2, hp5, hp7, hp15, hk1, hk2, hk3, hk4, hk5, hk6⟩ := hM
  have hx : ∀ n, n < 316 → vp_in (nI n) 316 := fun n h => vp_in_nI h (by omega)
  refine mm_ci.of okX8_barrel rfl (Nat.le_of_ble_eq_true rfl) (lv := [(0, .ref m), (1, .int l), (2, .int k)]) rfl ?_
  refine mm_aload_n dX8_barrel_0 rfl rfl ?_
  refine mm_iload_n dX8_barrel_1 rfl rfl ?_
  refine mm_Vi (N := mX8_isLot) (ci := 8) (as := [_]) dX8_barrel_2 lk_X8_81 okX8_isLot (by decide) rfl (by decide) rfl (by assumption) rfl (by decide) (r_isLot hM0) (fun r1 J1 hq => ?_)
  obtain ⟨rfl, hJ⟩ := hq
  subst J1
  refine mm_if_eq 12 dX8_barrel_5 (by decide) (fun c_5 => ?_) (fun c_5 => ?_)
  · skip
    have n1 := if_no c_5
    refine mm_ldc dX8_barrel_12 ct_X8_76 ?_
    refine mm_iret dX8_barrel_14 rfl ?_
    first
      | exact ⟨rfl, _, rfl, (if_pos (fun q => n1 q.1)).symm, r_fr.rf⟩
      | exact ⟨rfl, _, rfl, (if_pos (fun q => n2 q.2)).symm, r_fr.rf⟩
  · skip
    have y1 := if_yes c_5
    obtain ⟨L, hLn, hL6, rfl, hLc⟩ := inv_l hi y1
    refine mm_iload_n dX8_barrel_8 rfl rfl ?_
    refine mm_if_ge 15 dX8_barrel_9 (by decide) (fun c_9 => ?_) (fun c_9 => ?_)
    · skip
      obtain ⟨K, hK, rfl, hKc⟩ := int_any c_9
      have hlt := hi.2.1 L hL6
      have hok := hlt.2.1
      have h12 := hok.1
      have h90 : I (m + 1) (9 + 20 * L) = nI (sv (I (m + 1)) (9 + 20 * L)) := inv_f hlt 0 (by omega)
      have hsp : sq_barrel (I (m + 1)) (nI L) (nI K) = if K < sv (I (m + 1)) (9 + 20 * L) then I (m + 1) (17 + 20 * L + K) else -2000000004 := by
        unfold sq_barrel
        rw [if_neg (fun q => q ⟨y1, c_9⟩), hLc, hKc]
      refine mm_iload_n dX8_barrel_15 rfl rfl ?_
      refine mm_aload_n dX8_barrel_16 rfl rfl ?_
      refine mm_iload_n dX8_barrel_17 rfl rfl ?_
      refine mm_iconst 0 dX8_barrel_18 rfl ?_
      refine mm_Vi (N := mX8_of) (ci := 8) (as := [_, _]) dX8_barrel_19 lk_X8_36 okX8_of (by decide) rfl (by decide) rfl (by assumption) rfl (by first | decide | (simp [Value.category])) (r_of (f := 0) hM0 hL6 (by omega)) (fun r2 J1 hq => ?_)
      obtain ⟨rfl, hJ⟩ := hq
      subst J1
      rw [show 9 + 20 * L + 0 = 9 + 20 * L from rfl, h90]
      refine mm_icmp_ge 37 dX8_barrel_22 (by decide) (fun c_22 => ?_) (fun c_22 => ?_)
      · skip
        have hle : ¬ K < sv (I (m + 1)) (9 + 20 * L) := fun q => absurd c_22 (nI_ge q (by omega))
        rw [if_neg hle] at hsp
        refine mm_ldc dX8_barrel_37 ct_X8_57 ?_
        refine mm_iret dX8_barrel_39 rfl ?_
        exact ⟨rfl, _, rfl, hsp.symm, r_fr.rf⟩
      · skip
        have hlt2 : K < sv (I (m + 1)) (9 + 20 * L) := Nat.not_le.mp fun q => c_22 (nI_le q (by omega))
        rw [if_pos hlt2] at hsp
        refine mm_aload_n dX8_barrel_25 rfl rfl ?_
        refine mm_iload_n dX8_barrel_26 rfl rfl ?_
        refine mm_bipush 8 dX8_barrel_27 rfl ?_
        refine mm_iload_n dX8_barrel_29 rfl rfl ?_
        refine mm_iadd dX8_barrel_30 ?_
        refine mm_tope (y := nI (8 + K)) (nI_add 8 K) ?_
        refine mm_Vi (N := mX8_of) (ci := 8) (as := [_, _]) dX8_barrel_31 lk_X8_36 okX8_of (by decide) rfl (by decide) rfl (by assumption) rfl (by decide) (r_of (f := 8 + K) hM0 hL6 (by omega)) (fun r3 J1 hq => ?_)
        obtain ⟨rfl, hJ⟩ := hq
        subst J1
        rw [show 9 + 20 * L + (8 + K) = 17 + 20 * L + K by omega]
        refine mm_goto 39 dX8_barrel_34 (by decide) ?_
        refine mm_iret dX8_barrel_39 rfl ?_
        exact ⟨rfl, _, rfl, hsp.symm, r_fr.rf⟩
    · skip
      have n2 := c_9
      refine mm_ldc dX8_barrel_12 ct_X8_76 ?_
      refine mm_iret dX8_barrel_14 rfl ?_
      first
        | exact ⟨rfl, _, rfl, (if_pos (fun q => n1 q.1)).symm, r_fr.rf⟩
        | exact ⟨rfl, _, rfl, (if_pos (fun q => n2 q.2)).symm, r_fr.rf⟩
set_option maxRecDepth 100000 in
set_option maxHeartbeats 4000000 in
theorem r_account {S : mm_S} {I : mm_I} {m : Nat} {a : Int32} (hM : mm_ref S m) (hi : Inv (I (m + 1))) : mm_ci mX8_account [.ref m, .int a] S I (fun q J => q = sq_account (I (m + 1)) a ∧ r_fr I J m) := by
  have hM0 := hM
  obtain ⟨hk, hp0, hp1, hp2, hp5, hp7, hp15, hk1, hk2, hk3, hk4, hk5, hk6⟩ := hM
  have hx : ∀ n, n < 316 → vp_in (nI n) 316 := fun n h => vp_in_nI h (by omega)
  refine mm_ci.of okX8_account rfl (Nat.le_of_ble_eq_true rfl) (lv := [(0, .ref m), (1, .int a)]) rfl ?_
  refine mm_iload_n dX8_account_0 rfl rfl ?_
  refine mm_iconst (-1) dX8_account_1 rfl ?_
  refine mm_icmp_ne 16 dX8_account_2 (by decide) (fun c_2 => ?_) (fun c_2 => ?_)
  · skip
    have n1 := c_2
    refine mm_aload_n dX8_account_16 rfl rfl ?_
    refine mm_iload_n dX8_account_17 rfl rfl ?_
    refine mm_Vi (N := mX8_isBuyer) (ci := 8) (as := [_]) dX8_account_18 lk_X8_118 okX8_isBuyer (by decide) rfl (by decide) rfl (by assumption) rfl (by decide) (r_isBuyer hM0) (fun r1 J1 hq => ?_)
    obtain ⟨rfl, hJ⟩ := hq
    subst J1
    refine mm_if_eq 37 dX8_account_21 (by decide) (fun c_21 => ?_) (fun c_21 => ?_)
    · skip
      have n2 := if_no c_21
      refine mm_ldc dX8_account_37 ct_X8_76 ?_
      refine mm_iret dX8_account_39 rfl ?_
      refine ⟨rfl, _, rfl, ?_, r_fr.rf⟩
      unfold sq_account
      first
        | (rw [if_neg n1, if_neg n2]; done)
        | (rw [if_neg n1, if_pos y2, hBc]; done)
        | (rw [if_pos y1]; rfl)
        | (rw [if_pos (Classical.not_not.mp y1)]; rfl)
    · skip
      have y2 := if_yes c_21
      obtain ⟨B, hBn, hB6, rfl, hBc⟩ := inv_b hi y2
      refine mm_aload_n dX8_account_24 rfl rfl ?_
      refine mm_getR dX8_account_25 fl_X8_7 rfl (by assumption) (by assumption) ?_
      refine mm_sipush 129 dX8_account_28 rfl ?_
      refine mm_iload_n dX8_account_31 rfl rfl ?_
      refine mm_iadd dX8_account_32 ?_
      refine mm_tope (y := nI (129 + B)) (nI_add 129 B) ?_
      refine mm_iald dX8_account_33 (by assumption) (hx (129 + B) (by omega)) ?_
      rw [nI_clamp (by omega)]
      refine mm_goto 39 dX8_account_34 (by decide) ?_
      refine mm_iret dX8_account_39 rfl ?_
      refine ⟨rfl, _, rfl, ?_, r_fr.rf⟩
      unfold sq_account
      first
        | (rw [if_neg n1, if_neg n2]; done)
        | (rw [if_neg n1, if_pos y2, hBc]; done)
        | (rw [if_pos y1]; rfl)
        | (rw [if_pos (Classical.not_not.mp y1)]; rfl)
  · skip
    have y1 := c_2
    refine mm_aload_n dX8_account_5 rfl rfl ?_
    refine mm_getR dX8_account_6 fl_X8_7 rfl (by assumption) (by assumption) ?_
    refine mm_sipush 135 dX8_account_9 rfl ?_
    refine mm_iald dX8_account_12 (by assumption) (hx 135 (by omega)) ?_
    refine mm_goto 39 dX8_account_13 (by decide) ?_
    refine mm_iret dX8_account_39 rfl ?_
    refine ⟨rfl, _, rfl, ?_, r_fr.rf⟩
    unfold sq_account
    first
      | (rw [if_neg n1, if_neg n2]; done)
      | (rw [if_neg n1, if_pos y2, hBc]; done)
      | (rw [if_pos y1]; rfl)
      | (rw [if_pos (Classical.not_not.mp y1)]; rfl)
set_option maxRecDepth 100000 in
set_option maxHeartbeats 4000000 in
theorem r_entry {S : mm_S} {I : mm_I} {m : Nat} {k f : Int32} (hM : mm_ref S m) (hi : Inv (I (m + 1))) : mm_ci mX8_entry [.ref m, .int k, .int f] S I (fun q J => q = sq_entry (I (m + 1)) k f ∧ r_fr I J m) := by
  have hM0 := hM
  obtain ⟨hk, hp0, hp1, hp2, hp5, hp7, hp15, hk1, hk2, hk3, hk4, hk5, hk6⟩ := hM
  have hx : ∀ n, n < 316 → vp_in (nI n) 316 := fun n h => vp_in_nI h (by omega)
  refine mm_ci.of okX8_entry rfl (Nat.le_of_ble_eq_true rfl) (lv := [(0, .ref m), (1, .int k), (2, .int f)]) rfl ?_
  refine mm_iload_n dX8_entry_0 rfl rfl ?_
  refine mm_if_lt 13 dX8_entry_1 (by decide) (fun c_1 => ?_) (fun c_1 => ?_)
  · skip
    have n1 : ¬ 0 ≤ k := Int32.not_le.mpr c_1
    refine mm_ldc dX8_entry_13 ct_X8_76 ?_
    refine mm_iret dX8_entry_15 rfl ?_
    first
      | exact ⟨rfl, _, rfl, (if_pos (fun q => n1 q.1)).symm, r_fr.rf⟩
      | exact ⟨rfl, _, rfl, (if_pos (fun q => n2 q.2)).symm, r_fr.rf⟩
  · skip
    have y1 : 0 ≤ k := Int32.not_lt.mp c_1
    refine mm_iload_n dX8_entry_4 rfl rfl ?_
    refine mm_iconst 0 dX8_entry_5 rfl ?_
    refine mm_iconst 5 dX8_entry_6 rfl ?_
    refine mm_Si (N := mX8_in) (as := [_, _, _]) dX8_entry_7 lk_X8_72 okX8_in (by decide) rfl rfl (by decide) r_in (fun r1 J1 hq => ?_)
    obtain ⟨rfl, hJ⟩ := hq
    subst J1
    refine mm_if_ne 16 dX8_entry_10 (by decide) (fun c_10 => ?_) (fun c_10 => ?_)
    · skip
      have y2 := if_yes c_10
      obtain ⟨K, hK, rfl, hKc⟩ := int_any y1
      obtain ⟨F, hF5, rfl, hFc⟩ := int_n (n := 5) rfl (by omega) y2
      have h6 := hi.1.2.2.2.1
      have hsp : sq_entry (I (m + 1)) (nI K) (nI F) = if K < sv (I (m + 1)) 6 then I (m + 1) (244 + 6 * K + F) else -2000000004 := by
        unfold sq_entry
        rw [if_neg (fun q => q ⟨y1, y2⟩), hKc, hFc]
      refine mm_iload_n dX8_entry_16 rfl rfl ?_
      refine mm_aload_n dX8_entry_17 rfl rfl ?_
      refine mm_getR dX8_entry_18 fl_X8_7 rfl (by assumption) (by assumption) ?_
      refine mm_bipush 6 dX8_entry_21 rfl ?_
      refine mm_iald dX8_entry_23 (by assumption) (hx 6 (by omega)) ?_
      refine mm_tope (y := nI (sv (I (m + 1)) 6)) h6.1 ?_
      refine mm_icmp_ge 45 dX8_entry_24 (by decide) (fun c_24 => ?_) (fun c_24 => ?_)
      · skip
        have hle : ¬ K < sv (I (m + 1)) 6 := fun q => absurd c_24 (nI_ge q (by omega))
        rw [if_neg hle] at hsp
        refine mm_ldc dX8_entry_45 ct_X8_57 ?_
        refine mm_iret dX8_entry_47 rfl ?_
        exact ⟨rfl, _, rfl, hsp.symm, r_fr.rf⟩
      · skip
        have hlt2 : K < sv (I (m + 1)) 6 := Nat.not_le.mp fun q => c_24 (nI_le q (by omega))
        rw [if_pos hlt2] at hsp
        refine mm_aload_n dX8_entry_27 rfl rfl ?_
        refine mm_getR dX8_entry_28 fl_X8_7 rfl (by assumption) (by assumption) ?_
        refine mm_sipush 244 dX8_entry_31 rfl ?_
        refine mm_bipush 6 dX8_entry_34 rfl ?_
        refine mm_iload_n dX8_entry_36 rfl rfl ?_
        refine mm_imul dX8_entry_37 ?_
        refine mm_tope (y := nI (6 * K)) (pk_mul 6 K) ?_
        refine mm_iadd dX8_entry_38 ?_
        refine mm_tope (y := nI (244 + 6 * K)) (nI_add 244 _) ?_
        refine mm_iload_n dX8_entry_39 rfl rfl ?_
        refine mm_iadd dX8_entry_40 ?_
        refine mm_tope (y := nI (244 + 6 * K + F)) (nI_add _ _) ?_
        refine mm_iald dX8_entry_41 (by assumption) (hx (244 + 6 * K + F) (by omega)) ?_
        rw [nI_clamp (by omega)]
        refine mm_goto 47 dX8_entry_42 (by decide) ?_
        refine mm_iret dX8_entry_47 rfl ?_
        exact ⟨rfl, _, rfl, hsp.symm, r_fr.rf⟩
    · skip
      have n2 := if_no c_10
      refine mm_ldc dX8_entry_13 ct_X8_76 ?_
      refine mm_iret dX8_entry_15 rfl ?_
      first
        | exact ⟨rfl, _, rfl, (if_pos (fun q => n1 q.1)).symm, r_fr.rf⟩
        | exact ⟨rfl, _, rfl, (if_pos (fun q => n2 q.2)).symm, r_fr.rf⟩
set_option maxRecDepth 100000 in
set_option maxHeartbeats 4000000 in
theorem r_cases {S : mm_S} {I : mm_I} {m : Nat} {l t : Int32} (hM : mm_ref S m) (hi : Inv (I (m + 1))) : mm_ci mX8_cases [.ref m, .int l, .int t] S I (fun q J => q = sq_cases (I (m + 1)) l t ∧ r_fr I J m) := by
  have hM0 := hM
  obtain ⟨hk, hp0, hp1, hp2, hp5, hp7, hp15, hk1, hk2, hk3, hk4, hk5, hk6⟩ := hM
  have hx : ∀ n, n < 316 → vp_in (nI n) 316 := fun n h => vp_in_nI h (by omega)
  refine mm_ci.of okX8_cases rfl (Nat.le_of_ble_eq_true rfl) (lv := [(0, .ref m), (1, .int l), (2, .int t)]) rfl ?_
  refine mm_aload_n dX8_cases_0 rfl rfl ?_
  refine mm_iload_n dX8_cases_1 rfl rfl ?_
  refine mm_Vi (N := mX8_isLot) (ci := 8) (as := [_]) dX8_cases_2 lk_X8_81 okX8_isLot (by decide) rfl (by decide) rfl (by assumption) rfl (by decide) (r_isLot hM0) (fun r1 J1 hq => ?_)
  obtain ⟨rfl, hJ⟩ := hq
  subst J1
  refine mm_if_eq 18 dX8_cases_5 (by decide) (fun c_5 => ?_) (fun c_5 => ?_)
  · skip
    have n1 := if_no c_5
    refine mm_ldc dX8_cases_18 ct_X8_76 ?_
    refine mm_iret dX8_cases_20 rfl ?_
    first
      | exact ⟨rfl, _, rfl, (if_pos (fun q => n1 q.1)).symm, r_fr.rf⟩
      | exact ⟨rfl, _, rfl, (if_pos (fun q => n2 q.2)).symm, r_fr.rf⟩
  · skip
    have y1 := if_yes c_5
    obtain ⟨L, hLn, hL6, rfl, hLc⟩ := inv_l hi y1
    refine mm_iload_n dX8_cases_8 rfl rfl ?_
    refine mm_iconst 0 dX8_cases_9 rfl ?_
    refine mm_bipush 120 dX8_cases_10 rfl ?_
    refine mm_Si (N := mX8_in) (as := [_, _, _]) dX8_cases_12 lk_X8_72 okX8_in (by decide) rfl rfl (by decide) r_in (fun r1 J1 hq => ?_)
    obtain ⟨rfl, hJ⟩ := hq
    subst J1
    refine mm_if_ne 21 dX8_cases_15 (by decide) (fun c_15 => ?_) (fun c_15 => ?_)
    · skip
      have y2 := if_yes c_15
      obtain ⟨T, hT, rfl, hTc⟩ := int_n (n := 120) rfl (by omega) y2
      have hsp : sq_cases (I (m + 1)) (nI L) (nI T) = if sv (I (m + 1)) (13 + 20 * L) = 0 then nI (w_at (I (m + 1)) L T) else -2000000002 := by
        unfold sq_cases
        rw [if_neg (fun q => q ⟨y1, y2⟩), hLc, hTc]
      refine mm_aload_n dX8_cases_21 rfl rfl ?_
      refine mm_iload_n dX8_cases_22 rfl rfl ?_
      refine mm_Vv (N := mX8_loads) (ci := 8) (as := [_]) dX8_cases_23 lk_X8_62 okX8_loads (by decide) rfl (by decide) rfl (by assumption) rfl (by decide) (inv_load hM0 hi hL6) (fun J1 hw1 => ?_)
      obtain ⟨hw1, hf1⟩ := hw1
      have hs1 := hf1.s
      refine mm_aload_n dX8_cases_26 rfl rfl ?_
      refine mm_iload_n dX8_cases_27 rfl rfl ?_
      refine mm_Vi (N := mX8_isOpen) (ci := 8) (as := [_]) dX8_cases_28 lk_X8_85 okX8_isOpen (by decide) rfl (by decide) rfl (by assumption) rfl (by decide) (r_isOpen hM0 hL6) (fun r3 J3 hq => ?_)
      obtain ⟨rfl, hJ⟩ := hq
      subst J3
      rw [hs1]
      refine mm_if_eq 43 dX8_cases_31 (by decide) (fun c_31 => ?_) (fun c_31 => ?_)
      · skip
        have n4 := if_no c_31
        have n4 : ¬ sv (I (m + 1)) (13 + 20 * L) = 0 := fun q => n4 ((inv_open hi hL6).mpr q)
        refine mm_ldc dX8_cases_43 ct_X8_91 ?_
        refine mm_iret dX8_cases_45 rfl ?_
        refine ⟨rfl, _, rfl, ?_, hf1⟩
        rw [hsp]
        first
          | exact (if_pos y4).symm
          | exact (if_neg n4).symm
      · skip
        have y4 := if_yes c_31
        have y4 := (inv_open hi hL6).mp y4
        refine mm_aload_n dX8_cases_34 rfl rfl ?_
        refine mm_iload_n dX8_cases_35 rfl rfl ?_
        refine mm_iload_n dX8_cases_36 rfl rfl ?_
        refine mm_Vi (N := mX8_casesIn) (ci := 8) (as := [_, _]) dX8_cases_37 lk_X8_66 okX8_casesIn (by decide) rfl (by decide) rfl (by assumption) rfl (by decide) (inv_casesIn hM0 (by rw [hs1]; exact hi) hL6 (by omega) (by rw [hs1]; exact hw1)) (fun r6 J6 hq => ?_)
        obtain ⟨rfl, hw2, hf2⟩ := hq
        rw [hs1]
        have hf1 := hf1.tr hf2
        refine mm_goto 45 dX8_cases_40 (by decide) ?_
        refine mm_iret dX8_cases_45 rfl ?_
        refine ⟨rfl, _, rfl, ?_, hf1⟩
        rw [hsp]
        first
          | exact (if_pos y4).symm
          | exact (if_neg n4).symm
    · skip
      have n2 := if_no c_15
      refine mm_ldc dX8_cases_18 ct_X8_76 ?_
      refine mm_iret dX8_cases_20 rfl ?_
      first
        | exact ⟨rfl, _, rfl, (if_pos (fun q => n1 q.1)).symm, r_fr.rf⟩
        | exact ⟨rfl, _, rfl, (if_pos (fun q => n2 q.2)).symm, r_fr.rf⟩
set_option maxRecDepth 100000 in
set_option maxHeartbeats 4000000 in
theorem r_sellable {S : mm_S} {I : mm_I} {m : Nat} {l : Int32} (hM : mm_ref S m) (hi : Inv (I (m + 1))) : mm_ci mX8_sellable [.ref m, .int l] S I (fun q J => q = sq_sellable (I (m + 1)) l ∧ r_fr I J m) := by
  have hM0 := hM
  obtain ⟨hk, hp0, hp1, hp2, hp5, hp7, hp15, hk1, hk2, hk3, hk4, hk5, hk6⟩ := hM
  have hx : ∀ n, n < 316 → vp_in (nI n) 316 := fun n h => vp_in_nI h (by omega)
  refine mm_ci.of okX8_sellable rfl (Nat.le_of_ble_eq_true rfl) (lv := [(0, .ref m), (1, .int l)]) rfl ?_
  refine mm_aload_n dX8_sellable_0 rfl rfl ?_
  refine mm_iload_n dX8_sellable_1 rfl rfl ?_
  refine mm_Vi (N := mX8_isLot) (ci := 8) (as := [_]) dX8_sellable_2 lk_X8_81 okX8_isLot (by decide) rfl (by decide) rfl (by assumption) rfl (by decide) (r_isLot hM0) (fun r1 J1 hq => ?_)
  obtain ⟨rfl, hJ⟩ := hq
  subst J1
  refine mm_if_ne 11 dX8_sellable_5 (by decide) (fun c_5 => ?_) (fun c_5 => ?_)
  · skip
    have y1 := if_yes c_5
    obtain ⟨L, hLn, hL6, rfl, hLc⟩ := inv_l hi y1
    have hsp : sq_sellable (I (m + 1)) (nI L) = if sv (I (m + 1)) (13 + 20 * L) = 0 then nI (sp_exp (I (m + 1)) L - hsum (I (m + 1)) L) else -2000000002 := by
      unfold sq_sellable
      rw [if_neg (fun q => q y1), hLc]
    have hx3 := sp_exp_le hi hL6
    have hal := (hi.2.1 L hL6).2.2.2.2.2.2.1.1
    refine mm_aload_n dX8_sellable_11 rfl rfl ?_
    refine mm_iload_n dX8_sellable_12 rfl rfl ?_
    refine mm_Vi (N := mX8_isOpen) (ci := 8) (as := [_]) dX8_sellable_13 lk_X8_85 okX8_isOpen (by decide) rfl (by decide) rfl (by assumption) rfl (by decide) (r_isOpen hM0 hL6) (fun r3 J3 hq => ?_)
    obtain ⟨rfl, hJ⟩ := hq
    subst J3
    refine mm_if_ne 22 dX8_sellable_16 (by decide) (fun c_16 => ?_) (fun c_16 => ?_)
    · skip
      have y4 := if_yes c_16
      have y4 := (inv_open hi hL6).mp y4
      refine mm_aload_n dX8_sellable_22 rfl rfl ?_
      refine mm_iload_n dX8_sellable_23 rfl rfl ?_
      refine mm_Vi (N := mX8_expected) (ci := 8) (as := [_]) dX8_sellable_24 lk_X8_125 okX8_expected (by decide) rfl (by decide) rfl (by assumption) rfl (by decide) (inv_expected hM0 hi hL6) (fun r6 J6 hq => ?_)
      obtain ⟨rfl, hf1⟩ := hq
      have hs1 := hf1.s
      refine mm_aload_n dX8_sellable_27 rfl rfl ?_
      refine mm_iload_n dX8_sellable_28 rfl rfl ?_
      refine mm_Vi (N := mX8_allHeld) (ci := 8) (as := [_]) dX8_sellable_29 lk_X8_104 okX8_allHeld (by decide) rfl (by decide) rfl (by assumption) rfl (by first | decide | (simp [Value.category])) (inv_allHeld hM0 (by rw [hs1]; exact hi) hL6) (fun r7 J7 hq => ?_)
      obtain ⟨rfl, hJ⟩ := hq
      subst J7
      rw [hs1]
      rcases Nat.lt_or_ge (sp_exp (I (m + 1)) L) (hsum (I (m + 1)) L) with hlt | hge
      · skip
        refine mm_isub dX8_sellable_32 ?_
        refine mm_istore_n dX8_sellable_33 rfl (Nat.le_of_ble_eq_true rfl) ?_
        refine mm_iload_n dX8_sellable_34 rfl rfl ?_
        refine mm_if_ge 42 dX8_sellable_35 (by decide) (fun c_35 => absurd c_35 (fun q => by have h9 := Int32.le_iff_toInt_le.mp q; rw [pk_sub_toInt (by omega) (by omega)] at h9; have h10 : (0 : Int32).toInt = 0 := rfl; rw [h10] at h9; omega)) (fun c_35 => ?_)
        refine mm_iconst 0 dX8_sellable_38 rfl ?_
        refine mm_goto 43 dX8_sellable_39 (by decide) ?_
        refine mm_iret dX8_sellable_43 rfl ?_
        exact ⟨rfl, _, rfl, by rw [hsp, if_pos y4, show sp_exp (I (m + 1)) L - hsum (I (m + 1)) L = 0 by omega]; rfl, hf1⟩
      · skip
        refine mm_isub dX8_sellable_32 ?_
        refine mm_tope (y := nI (sp_exp (I (m + 1)) L - hsum (I (m + 1)) L)) (pk_sub hge) ?_
        refine mm_istore_n dX8_sellable_33 rfl (Nat.le_of_ble_eq_true rfl) ?_
        refine mm_iload_n dX8_sellable_34 rfl rfl ?_
        refine mm_if_ge 42 dX8_sellable_35 (by decide) (fun c_35 => ?_) (fun c_35 => absurd (nI_pos' (by omega)) c_35)
        refine mm_iload_n dX8_sellable_42 rfl rfl ?_
        refine mm_iret dX8_sellable_43 rfl ?_
        exact ⟨rfl, _, rfl, by rw [hsp, if_pos y4], hf1⟩
      
    · skip
      have n4 := if_no c_16
      have n4 : ¬ sv (I (m + 1)) (13 + 20 * L) = 0 := fun q => n4 ((inv_open hi hL6).mpr q)
      refine mm_ldc dX8_sellable_19 ct_X8_91 ?_
      refine mm_iret dX8_sellable_21 rfl ?_
      exact ⟨rfl, _, rfl, by rw [hsp, if_neg n4], r_fr.rf⟩
  · skip
    have n1 := if_no c_5
    refine mm_ldc dX8_sellable_8 ct_X8_76 ?_
    refine mm_iret dX8_sellable_10 rfl ?_
    first
      | exact ⟨rfl, _, rfl, (if_pos (fun q => n1 q)).symm, r_fr.rf⟩
