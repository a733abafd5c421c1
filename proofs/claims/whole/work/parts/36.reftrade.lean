/-! THE REFERENCE: bottle, sell, trade, redeem -/
theorem ws_sum_ge {w : Nat → Nat} : ∀ n k, k < n → w k ≤ ws_sum w n
  | 0, _, h => absurd h (Nat.not_lt_zero _)
  | n + 1, k, h => by
    show w k ≤ ws_sum w n + w n
    by_cases e : k = n
    · subst e; omega
    · have := ws_sum_ge (w := w) n k (by omega); omega
theorem inv_h {s : Nat → Int32} {l b : Nat} (h : Inv s) (hl : l < 6) (hb : b < 6) : s (136 + 18 * b + 3 * l) = nI (sv s (136 + 18 * b + 3 * l)) ∧ sv s (136 + 18 * b + 3 * l) ≤ 300 ∧ s (137 + 18 * b + 3 * l) = nI (sv s (137 + 18 * b + 3 * l)) ∧ sv s (137 + 18 * b + 3 * l) ≤ 299700 := by
  have h1 := h.2.1 l hl
  have h2 := h1.2.2.2.2.2.2.2 b hb
  have h3 := h1.2.2.2.2.2.2.1.1
  have h4 : sv s (136 + 18 * b + 3 * l) ≤ hsum s l := ws_sum_ge (w := fun b => sv s (136 + 18 * b + 3 * l)) 6 b hb
  refine ⟨h2.1 0 (by omega), by omega, ?_, by have := h2.2; omega⟩
  have h5 := h2.1 1 (by omega)
  rw [show 136 + 18 * b + 3 * l + 1 = 137 + 18 * b + 3 * l by omega] at h5
  exact h5
theorem hsum_nb {s : Nat → Int32} {l : Nat} (h : Inv s) (hl : l < 6) : ws_sum (fun b => sv s (136 + 18 * b + 3 * l)) (sv s 1) = hsum s l := by
  refine (ws_sum_0 6 h.1.2.1.2 (fun b h1 h2 => ?_)).symm
  exact (h.2.2.2.1 b h2 h1).2 l hl 0 (by omega)
theorem inv_open {s : Nat → Int32} {l : Nat} (h : Inv s) (hl : l < 6) : s (13 + 20 * l) = 0 ↔ sv s (13 + 20 * l) = 0 := by
  have h4 := inv_f (h.2.1 l hl) 4 (by omega)
  rw [show 9 + 4 + 20 * l = 13 + 20 * l by omega] at h4
  constructor
  · intro q
    unfold sv
    rw [q]; rfl
  · intro q
    rw [h4, q]; rfl
theorem sp_enter_at {s : Nat → Int32} {k l b c p f : Int32} {j : Nat} (h : j < 244) (h6 : j ≠ 6) : sp_enter s k l b c p f j = s j := by
  unfold sp_enter
  rw [if_neg (by omega), if_neg h6]
theorem sp_enter_6 {s : Nat → Int32} {k l b c p f : Int32} : sp_enter s k l b c p f 6 = nI (if sv s 6 < 12 then sv s 6 + 1 else 12) := by
  unfold sp_enter
  rw [if_neg (by omega), if_pos rfl]
theorem sp_comes_at {s : Nat → Int32} {b l f : Nat} {c p : Int32} {j : Nat} (h0 : j ≠ 136 + 18 * b + 3 * l) (h1 : j ≠ 137 + 18 * b + 3 * l) (h2 : j ≠ 129 + b) (h3 : j ≠ 129 + f) : sp_comes s b l c p f j = s j := by
  unfold sp_comes upd
  rw [if_neg h3, if_neg h2, if_neg h1, if_neg h0]
theorem sp_comes_h {s : Nat → Int32} {b l f : Nat} {c p : Int32} (hb : b < 6) (hf : f ≤ 6) : sp_comes s b l c p f (136 + 18 * b + 3 * l) = s (136 + 18 * b + 3 * l) + c := by
  unfold sp_comes upd
  rw [if_neg (by omega), if_neg (by omega), if_neg (by omega)]
  exact if_pos rfl
theorem sp_goes_at {s : Nat → Int32} {b l k j : Nat} (h0 : j ≠ 136 + 18 * b + 3 * l) (h1 : j ≠ 137 + 18 * b + 3 * l) : sp_goes s b l k j = s j := by
  unfold sp_goes upd
  rw [if_neg h0, if_neg h1]
theorem hist_fr {I J : mm_I} {m n : Nat} {hs : Nat → Nat → Int32} (hh : I m 4 = 0 → hist_r I m n hs) (g : r_fr I J m) : J m 4 = 0 → hist_r J m n hs := fun q => (hh (by rw [← g.2 4 (by decide)]; exact q)).of (g.2 3 (by decide)) (g.1 (m + 2) (by omega) (by omega))
/-- goes, from the invariant -/
theorem inv_goes {S : mm_S} {I : mm_I} {m b l k : Nat} (hM : mm_ref S m) (hb : b < 6) (hl : l < 6) (h3 : I (m + 1) (136 + 18 * b + 3 * l) = nI (sv (I (m + 1)) (136 + 18 * b + 3 * l)) ∧ sv (I (m + 1)) (136 + 18 * b + 3 * l) ≤ 300 ∧ I (m + 1) (137 + 18 * b + 3 * l) = nI (sv (I (m + 1)) (137 + 18 * b + 3 * l)) ∧ sv (I (m + 1)) (137 + 18 * b + 3 * l) ≤ 299700) (hk0 : 0 < k) (hkh : k ≤ sv (I (m + 1)) (136 + 18 * b + 3 * l)) : mm_ci mX8_goes [.ref m, .int (nI b), .int (nI l), .int (nI k)] S I (fun q J => q = nI (sv (I (m + 1)) (137 + 18 * b + 3 * l) * k / sv (I (m + 1)) (136 + 18 * b + 3 * l)) ∧ J (m + 1) = sp_goes (I (m + 1)) b l k ∧ ∀ c, c ≠ m + 1 → J c = I c) :=
  (r_goes hM hb hl h3.1 h3.2.2.1 hkh (by omega) (by omega) (by omega)).to (fun q J h => by
    obtain ⟨rfl, rfl⟩ := h
    exact ⟨rfl, by rw [mm_wr_upd, mm_wr_upd]; rfl, fun c hc => by rw [mm_wr_row hc, mm_wr_row hc]⟩)
theorem share_lt {p k h : Nat} (hk : k ≤ h) (hp : p ≤ 299700) : p * k / h < 2 ^ 31 := by have := w_share_le (p := p) hk; omega

set_option maxRecDepth 100000 in
set_option maxHeartbeats 4000000 in
theorem r_sell {S : mm_S} {I : mm_I} {m n : Nat} {hs : Nat → Nat → Int32} {l b c p : Int32} (hM : mm_ref S m) (hi : Inv (I (m + 1))) (hh : I m 4 = 0 → hist_r I m n hs) : mm_ci mX8_sell [.ref m, .int l, .int b, .int c, .int p] S I (r_Q m n hs I (sp_sell (I (m + 1)) l b c p)) := by
  have hM0 := hM
  obtain ⟨hk, hp0, hp1, hp2, hp5, hp7, hp15, hk1, hk2, hk3, hk4, hk5, hk6⟩ := hM
  have hx : ∀ n, n < 316 → vp_in (nI n) 316 := fun n h => vp_in_nI h (by omega)
  refine mm_ci.of okX8_sell rfl (Nat.le_of_ble_eq_true rfl) (lv := [(0, .ref m), (1, .int l), (2, .int b), (3, .int c), (4, .int p)]) rfl ?_
  refine mm_aload_n dX8_sell_0 rfl rfl ?_
  refine mm_iload_n dX8_sell_1 rfl rfl ?_
  refine mm_Vi (N := mX8_isLot) (ci := 8) (as := [_]) dX8_sell_2 lk_X8_81 okX8_isLot (by decide) rfl (by decide) rfl (by assumption) rfl (by decide) (r_isLot hM0) (fun r1 J1 hq => ?_)
  obtain ⟨rfl, hJ⟩ := hq
  subst J1
  refine mm_if_eq 25 dX8_sell_5 (by decide) (fun c_5 => ?_) (fun c_5 => ?_)
  · skip
    have n1 := if_no c_5
    refine mm_ldc dX8_sell_25 ct_X8_76 ?_
    refine mm_iret dX8_sell_27 rfl ?_
    first
      | exact ⟨rfl, _, rfl, r_Q_err (if_pos (fun q => n1 q.1)) (by decide)⟩
      | exact ⟨rfl, _, rfl, r_Q_err (if_pos (fun q => n2 q.2.1)) (by decide)⟩
      | exact ⟨rfl, _, rfl, r_Q_err (if_pos (fun q => n3 q.2.2)) (by decide)⟩
  · skip
    have y1 := if_yes c_5
    obtain ⟨L, hLn, hL6, rfl, hLc⟩ := inv_l hi y1
    refine mm_aload_n dX8_sell_8 rfl rfl ?_
    refine mm_iload_n dX8_sell_9 rfl rfl ?_
    refine mm_Vi (N := mX8_isBuyer) (ci := 8) (as := [_]) dX8_sell_10 lk_X8_118 okX8_isBuyer (by decide) rfl (by decide) rfl (by assumption) rfl (by decide) (r_isBuyer hM0) (fun r1 J1 hq => ?_)
    obtain ⟨rfl, hJ⟩ := hq
    subst J1
    refine mm_if_eq 25 dX8_sell_13 (by decide) (fun c_13 => ?_) (fun c_13 => ?_)
    · skip
      have n2 := if_no c_13
      refine mm_ldc dX8_sell_25 ct_X8_76 ?_
      refine mm_iret dX8_sell_27 rfl ?_
      first
        | exact ⟨rfl, _, rfl, r_Q_err (if_pos (fun q => n1 q.1)) (by decide)⟩
        | exact ⟨rfl, _, rfl, r_Q_err (if_pos (fun q => n2 q.2.1)) (by decide)⟩
        | exact ⟨rfl, _, rfl, r_Q_err (if_pos (fun q => n3 q.2.2)) (by decide)⟩
    · skip
      have y2 := if_yes c_13
      obtain ⟨B, hBn, hB6, rfl, hBc⟩ := inv_b hi y2
      refine mm_iload_n dX8_sell_16 rfl rfl ?_
      refine mm_iload dX8_sell_17 rfl ?_
      refine mm_Si (N := mX8_areCases) (as := [_, _]) dX8_sell_19 lk_X8_121 okX8_areCases (by decide) rfl rfl (by decide) r_areCases (fun r1 J1 hq => ?_)
      obtain ⟨rfl, hJ⟩ := hq
      subst J1
      refine mm_if_ne 28 dX8_sell_22 (by decide) (fun c_22 => ?_) (fun c_22 => ?_)
      · skip
        have y3 := if_yes c_22
        obtain ⟨C, hC1, hC9, rfl, hCc⟩ := int_p (n := 999) rfl (by omega) y3.1
        have hlt := hi.2.1 L hL6
        have hok := hlt.2.1
        have hh1 := hlt.2.2.2.2.2.2.1.1
        have hbh := inv_h hi hL6 hB6
        have hsp : sp_sell (I (m + 1)) (nI L) (nI B) (nI C) p = if ¬ (sv (I (m + 1)) (13 + 20 * L) = 0 ∧ hsum (I (m + 1)) L + C ≤ sp_exp (I (m + 1)) L) then (-2000000002, I (m + 1))
          else (I (m + 1) (136 + 18 * B + 3 * L) + nI C, sp_enter (sp_comes (I (m + 1)) B L (nI C) p 6) 0 (nI L) (nI B) (nI C) p (-2000000004)) := by
          unfold sp_sell
          rw [if_neg (fun q => q ⟨y1, y2, y3⟩), hLc, hBc, hCc]
        refine mm_aload_n dX8_sell_28 rfl rfl ?_
        refine mm_iload_n dX8_sell_29 rfl rfl ?_
        refine mm_Vi (N := mX8_isOpen) (ci := 8) (as := [_]) dX8_sell_30 lk_X8_85 okX8_isOpen (by decide) rfl (by decide) rfl (by assumption) rfl (by decide) (r_isOpen hM0 hL6) (fun r1 J1 hq => ?_)
        obtain ⟨rfl, hJ⟩ := hq
        subst J1
        refine mm_if_eq 51 dX8_sell_33 (by decide) (fun c_33 => ?_) (fun c_33 => ?_)
        · skip
          have n4 := if_no c_33
          refine mm_ldc dX8_sell_51 ct_X8_91 ?_
          refine mm_iret dX8_sell_53 rfl ?_
          first
            | exact ⟨rfl, _, rfl, r_Q_err (by rw [hsp, if_pos (fun q => n4 ((inv_open hi hL6).mpr q.1))]) (by decide)⟩
            | exact ⟨rfl, _, rfl, r_Q_erf hsp (by decide) hf1⟩
        · skip
          have y4 := if_yes c_33
          refine mm_aload_n dX8_sell_36 rfl rfl ?_
          refine mm_iload_n dX8_sell_37 rfl rfl ?_
          refine mm_Vi (N := mX8_allHeld) (ci := 8) (as := [_]) dX8_sell_38 lk_X8_104 okX8_allHeld (by decide) rfl (by decide) rfl (by assumption) rfl (by decide) (r_allHeld (g := fun b => sv (I (m + 1)) (136 + 18 * b + 3 * L)) hM0 hL6 hi.1.2.1.1 hi.1.2.1.2 (fun b hb => (inv_h hi hL6 (by have := hi.1.2.1.2; omega)).1)) (fun r1 J1 hq => ?_)
          obtain ⟨rfl, hJ⟩ := hq
          subst J1
          rw [hsum_nb hi hL6]
          refine mm_iload_n dX8_sell_41 rfl rfl ?_
          refine mm_iadd dX8_sell_42 ?_
          refine mm_tope (y := nI (hsum (I (m + 1)) L + C)) (nI_add _ _) ?_
          refine mm_aload_n dX8_sell_43 rfl rfl ?_
          refine mm_iload_n dX8_sell_44 rfl rfl ?_
          refine mm_Vi (N := mX8_expected) (ci := 8) (as := [_]) dX8_sell_45 lk_X8_125 okX8_expected (by decide) rfl (by decide) rfl (by assumption) rfl (by first | decide | (simp [Value.category])) (r_expected (w := sw (I (m + 1)) L) hM0 hL6 (inv_f hlt 0 (by omega)) hok.1 (fun k hk => inv_w hlt hk) hok.2.1 (fun k _ => hok.2.2.1 k) hok.2.2.2.1 (inv_f hlt 1 (by omega)) hi.1.2.2.2.2.1.1 hi.1.2.2.2.2.1.2 hi.1.2.2.2.2.2.1 hi.1.2.2.2.2.2.2) (fun r2 J1 hq => ?_)
          obtain ⟨rfl, hf1⟩ := hq
          have hs1 := hf1.s
          have hx2 : sp_exp (I (m + 1)) L ≤ 300 := by
            have := ws_sum_le (w := fun k => wb_it (sv (I (m + 1)) (10 + 20 * L)) (sv (I (m + 1)) 8) (sw (I (m + 1)) L k)) (b := 2250) (sv (I (m + 1)) (9 + 20 * L)) (fun k _ => Nat.le_trans (wb_it_le _ _) (hok.2.2.1 k))
            have h12 := hok.1
            have e1 : ws_sum (fun k => wb_it (sv (I (m + 1)) (10 + 20 * L)) (sv (I (m + 1)) 8) (sw (I (m + 1)) L k)) (sv (I (m + 1)) (9 + 20 * L)) / 90 ≤ 300 := by omega
            unfold sp_exp
            exact Nat.div_le_of_le_mul (Nat.le_trans (Nat.mul_le_mul e1 (Nat.sub_le 100 _)) (by omega))
          have hev : nI (ws_sum (fun k => wb_it (sv (I (m + 1)) (10 + 20 * L)) (sv (I (m + 1)) 8) (sw (I (m + 1)) L k)) (sv (I (m + 1)) (9 + 20 * L)) / 90 * (100 - sv (I (m + 1)) 7) / 100) = nI (sp_exp (I (m + 1)) L) := rfl
          rw [hev]
          clear hev
          refine mm_icmp_le 54 dX8_sell_48 (by decide) (fun c_48 => ?_) (fun c_48 => ?_)
          · skip
            have hle := (nI_leI (by omega) (by omega)).mp c_48
            rw [if_neg (fun q => q ⟨(inv_open hi hL6).mp y4, hle⟩)] at hsp
            refine mm_aload_n dX8_sell_54 rfl rfl ?_
            refine mm_Vv (N := mX8_changes) (ci := 8) (as := []) dX8_sell_55 lk_X8_78 okX8_changes (by decide) rfl (by decide) rfl (by assumption) rfl (by decide) (r_changes hM0 (hist_fr hh hf1)) (fun J2 hc => ?_)
            have hs2 := hc.s
            refine mm_aload_n dX8_sell_58 rfl rfl ?_
            refine mm_iload_n dX8_sell_59 rfl rfl ?_
            refine mm_iload_n dX8_sell_60 rfl rfl ?_
            refine mm_iload_n dX8_sell_61 rfl rfl ?_
            refine mm_iload dX8_sell_62 rfl ?_
            refine mm_bipush 6 dX8_sell_64 rfl ?_
            refine mm_Vv (N := mX8_comes) (ci := 8) (as := [_, _, _, _, _]) dX8_sell_66 lk_X8_128 okX8_comes (by decide) rfl (by decide) rfl (by assumption) rfl (by decide) (r_comes (f := 6) hM0 hB6 hL6 (by omega)) (fun J3 hq => ?_)
            obtain ⟨g1, g2⟩ := hq
            rw [hs2, hs1] at g1
            have e6 : J3 (m + 1) 6 = nI (sv (I (m + 1)) 6) := by rw [g1, sp_comes_at (by omega) (by omega) (by omega) (by omega)]; exact hi.1.2.2.2.1.1
            refine mm_aload_n dX8_sell_69 rfl rfl ?_
            refine mm_iconst 0 dX8_sell_70 rfl ?_
            refine mm_iload_n dX8_sell_71 rfl rfl ?_
            refine mm_iload_n dX8_sell_72 rfl rfl ?_
            refine mm_iload_n dX8_sell_73 rfl rfl ?_
            refine mm_iload dX8_sell_74 rfl ?_
            refine mm_ldc dX8_sell_76 ct_X8_57 ?_
            refine mm_Vv (N := mX8_enters) (ci := 8) (as := [_, _, _, _, _, _]) dX8_sell_78 lk_X8_114 okX8_enters (by decide) rfl (by decide) rfl (by assumption) rfl (by decide) (r_enters hM0 e6 hi.1.2.2.2.1.2) (fun J4 hq => ?_)
            obtain ⟨g3, g4⟩ := hq
            rw [g1] at g3
            have e7 : J4 (m + 1) (136 + 18 * B + 3 * L) = I (m + 1) (136 + 18 * B + 3 * L) + nI C := by rw [g3, sp_enter_at (by omega) (by omega), sp_comes_h hB6 (by omega)]
            refine mm_aload_n dX8_sell_81 rfl rfl ?_
            refine mm_iload_n dX8_sell_82 rfl rfl ?_
            refine mm_iload_n dX8_sell_83 rfl rfl ?_
            refine mm_Vi (N := mX8_holds) (ci := 8) (as := [_, _]) dX8_sell_84 lk_X8_44 okX8_holds (by decide) rfl (by decide) rfl (by assumption) rfl (by decide) (r_holds hM0 hB6 hL6) (fun r3 J5 hq => ?_)
            obtain ⟨rfl, hJ⟩ := hq
            subst J5
            rw [e7]
            refine mm_iret dX8_sell_87 rfl ?_
            refine ⟨rfl, _, rfl, ?_⟩
            rw [hsp]
            refine ⟨rfl, g3, r_op.yes ?_ hf1 hc (fun c q1 q2 q3 => by rw [g4 c q2, g2 c q2]) (fun j hj => by rw [g4 m (by omega), g2 m (by omega)])⟩
            show 0 ≤ I (m + 1) (136 + 18 * B + 3 * L) + nI C
            rw [hbh.1, nI_add]
            exact nI_pos' (by omega)
          · skip
            have hgt : ¬ hsum (I (m + 1)) L + C ≤ sp_exp (I (m + 1)) L := fun q => c_48 (nI_le q (by omega))
            rw [if_pos (fun q => hgt q.2)] at hsp
            refine mm_ldc dX8_sell_51 ct_X8_91 ?_
            refine mm_iret dX8_sell_53 rfl ?_
            first
              | exact ⟨rfl, _, rfl, r_Q_err (by rw [hsp, if_pos (fun q => n4 ((inv_open hi hL6).mpr q.1))]) (by decide)⟩
              | exact ⟨rfl, _, rfl, r_Q_erf hsp (by decide) hf1⟩
      · skip
        have n3 := if_no c_22
        refine mm_ldc dX8_sell_25 ct_X8_76 ?_
        refine mm_iret dX8_sell_27 rfl ?_
        first
          | exact ⟨rfl, _, rfl, r_Q_err (if_pos (fun q => n1 q.1)) (by decide)⟩
          | exact ⟨rfl, _, rfl, r_Q_err (if_pos (fun q => n2 q.2.1)) (by decide)⟩
          | exact ⟨rfl, _, rfl, r_Q_err (if_pos (fun q => n3 q.2.2)) (by decide)⟩
set_option maxRecDepth 100000 in
set_option maxHeartbeats 4000000 in
theorem r_trade {S : mm_S} {I : mm_I} {m n : Nat} {hs : Nat → Nat → Int32} {l f t c p : Int32} (hM : mm_ref S m) (hi : Inv (I (m + 1))) (hh : I m 4 = 0 → hist_r I m n hs) : mm_ci mX8_trade [.ref m, .int l, .int f, .int t, .int c, .int p] S I (r_Q m n hs I (sp_trade (I (m + 1)) l f t c p)) := by
  have hM0 := hM
  obtain ⟨hk, hp0, hp1, hp2, hp5, hp7, hp15, hk1, hk2, hk3, hk4, hk5, hk6⟩ := hM
  have hx : ∀ n, n < 316 → vp_in (nI n) 316 := fun n h => vp_in_nI h (by omega)
  refine mm_ci.of okX8_trade rfl (Nat.le_of_ble_eq_true rfl) (lv := [(0, .ref m), (1, .int l), (2, .int f), (3, .int t), (4, .int c), (5, .int p)]) rfl ?_
  refine mm_aload_n dX8_trade_0 rfl rfl ?_
  refine mm_iload_n dX8_trade_1 rfl rfl ?_
  refine mm_Vi (N := mX8_isLot) (ci := 8) (as := [_]) dX8_trade_2 lk_X8_81 okX8_isLot (by decide) rfl (by decide) rfl (by assumption) rfl (by decide) (r_isLot hM0) (fun r1 J1 hq => ?_)
  obtain ⟨rfl, hJ⟩ := hq
  subst J1
  refine mm_if_eq 39 dX8_trade_5 (by decide) (fun c_5 => ?_) (fun c_5 => ?_)
  · skip
    have n1 := if_no c_5
    refine mm_ldc dX8_trade_39 ct_X8_76 ?_
    refine mm_iret dX8_trade_41 rfl ?_
    first
      | exact ⟨rfl, _, rfl, r_Q_err (if_pos (fun q => n1 q.1)) (by decide)⟩
      | exact ⟨rfl, _, rfl, r_Q_err (if_pos (fun q => n2 q.2.1)) (by decide)⟩
      | exact ⟨rfl, _, rfl, r_Q_err (if_pos (fun q => n3 q.2.2.1)) (by decide)⟩
      | exact ⟨rfl, _, rfl, r_Q_err (if_pos (fun q => n5 q.2.2.2.2)) (by decide)⟩
      | exact ⟨rfl, _, rfl, r_Q_err (if_pos (fun q => q.2.2.2.1 c_26)) (by decide)⟩
  · skip
    have y1 := if_yes c_5
    obtain ⟨L, hLn, hL6, rfl, hLc⟩ := inv_l hi y1
    refine mm_aload_n dX8_trade_8 rfl rfl ?_
    refine mm_iload_n dX8_trade_9 rfl rfl ?_
    refine mm_Vi (N := mX8_isBuyer) (ci := 8) (as := [_]) dX8_trade_10 lk_X8_118 okX8_isBuyer (by decide) rfl (by decide) rfl (by assumption) rfl (by decide) (r_isBuyer hM0) (fun r1 J1 hq => ?_)
    obtain ⟨rfl, hJ⟩ := hq
    subst J1
    refine mm_if_eq 39 dX8_trade_13 (by decide) (fun c_13 => ?_) (fun c_13 => ?_)
    · skip
      have n2 := if_no c_13
      refine mm_ldc dX8_trade_39 ct_X8_76 ?_
      refine mm_iret dX8_trade_41 rfl ?_
      first
        | exact ⟨rfl, _, rfl, r_Q_err (if_pos (fun q => n1 q.1)) (by decide)⟩
        | exact ⟨rfl, _, rfl, r_Q_err (if_pos (fun q => n2 q.2.1)) (by decide)⟩
        | exact ⟨rfl, _, rfl, r_Q_err (if_pos (fun q => n3 q.2.2.1)) (by decide)⟩
        | exact ⟨rfl, _, rfl, r_Q_err (if_pos (fun q => n5 q.2.2.2.2)) (by decide)⟩
        | exact ⟨rfl, _, rfl, r_Q_err (if_pos (fun q => q.2.2.2.1 c_26)) (by decide)⟩
    · skip
      have y2 := if_yes c_13
      obtain ⟨B, hBn, hB6, rfl, hBc⟩ := inv_b hi y2
      refine mm_aload_n dX8_trade_16 rfl rfl ?_
      refine mm_iload_n dX8_trade_17 rfl rfl ?_
      refine mm_Vi (N := mX8_isBuyer) (ci := 8) (as := [_]) dX8_trade_18 lk_X8_118 okX8_isBuyer (by decide) rfl (by decide) rfl (by assumption) rfl (by decide) (r_isBuyer hM0) (fun r1 J1 hq => ?_)
      obtain ⟨rfl, hJ⟩ := hq
      subst J1
      refine mm_if_eq 39 dX8_trade_21 (by decide) (fun c_21 => ?_) (fun c_21 => ?_)
      · skip
        have n3 := if_no c_21
        refine mm_ldc dX8_trade_39 ct_X8_76 ?_
        refine mm_iret dX8_trade_41 rfl ?_
        first
          | exact ⟨rfl, _, rfl, r_Q_err (if_pos (fun q => n1 q.1)) (by decide)⟩
          | exact ⟨rfl, _, rfl, r_Q_err (if_pos (fun q => n2 q.2.1)) (by decide)⟩
          | exact ⟨rfl, _, rfl, r_Q_err (if_pos (fun q => n3 q.2.2.1)) (by decide)⟩
          | exact ⟨rfl, _, rfl, r_Q_err (if_pos (fun q => n5 q.2.2.2.2)) (by decide)⟩
          | exact ⟨rfl, _, rfl, r_Q_err (if_pos (fun q => q.2.2.2.1 c_26)) (by decide)⟩
      · skip
        have y3 := if_yes c_21
        obtain ⟨T, hTn, hT6, rfl, hTc⟩ := inv_b hi y3
        refine mm_iload_n dX8_trade_24 rfl rfl ?_
        refine mm_iload_n dX8_trade_25 rfl rfl ?_
        refine mm_icmp_eq 39 dX8_trade_26 (by decide) (fun c_26 => ?_) (fun c_26 => ?_)
        · skip
          refine mm_ldc dX8_trade_39 ct_X8_76 ?_
          refine mm_iret dX8_trade_41 rfl ?_
          first
            | exact ⟨rfl, _, rfl, r_Q_err (if_pos (fun q => n1 q.1)) (by decide)⟩
            | exact ⟨rfl, _, rfl, r_Q_err (if_pos (fun q => n2 q.2.1)) (by decide)⟩
            | exact ⟨rfl, _, rfl, r_Q_err (if_pos (fun q => n3 q.2.2.1)) (by decide)⟩
            | exact ⟨rfl, _, rfl, r_Q_err (if_pos (fun q => n5 q.2.2.2.2)) (by decide)⟩
            | exact ⟨rfl, _, rfl, r_Q_err (if_pos (fun q => q.2.2.2.1 c_26)) (by decide)⟩
        · skip
          refine mm_iload dX8_trade_29 rfl ?_
          refine mm_iload dX8_trade_31 rfl ?_
          refine mm_Si (N := mX8_areCases) (as := [_, _]) dX8_trade_33 lk_X8_121 okX8_areCases (by decide) rfl rfl (by decide) r_areCases (fun r1 J1 hq => ?_)
          obtain ⟨rfl, hJ⟩ := hq
          subst J1
          refine mm_if_ne 42 dX8_trade_36 (by decide) (fun c_36 => ?_) (fun c_36 => ?_)
          · skip
            have y5 := if_yes c_36
            obtain ⟨C, hC1, hC9, rfl, hCc⟩ := int_p (n := 999) rfl (by omega) y5.1
            have hbh := inv_h hi hL6 hB6
            have hth := inv_h hi hL6 hT6
            have hBT : B ≠ T := fun q => c_26 (by rw [q])
            have hsp : sp_trade (I (m + 1)) (nI L) (nI B) (nI T) (nI C) p = if sv (I (m + 1)) (136 + 18 * B + 3 * L) < C then (-2000000002, I (m + 1))
              else (I (m + 1) (136 + 18 * T + 3 * L) + nI C, sp_enter (sp_comes (sp_goes (I (m + 1)) B L C) T L (nI C) p B) 1 (nI L) (nI T) (nI C) p (nI B)) := by
              unfold sp_trade
              rw [if_neg (fun q => q ⟨y1, y2, y3, c_26, y5⟩), hLc, hBc, hCc, hTc]
            refine mm_aload_n dX8_trade_42 rfl rfl ?_
            refine mm_iload_n dX8_trade_43 rfl rfl ?_
            refine mm_iload_n dX8_trade_44 rfl rfl ?_
            refine mm_Vi (N := mX8_holds) (ci := 8) (as := [_, _]) dX8_trade_45 lk_X8_44 okX8_holds (by decide) rfl (by decide) rfl (by assumption) rfl (by decide) (r_holds hM0 hB6 hL6) (fun r1 J1 hq => ?_)
            obtain ⟨rfl, hJ⟩ := hq
            subst J1
            rw [hbh.1]
            refine mm_iload dX8_trade_48 rfl ?_
            refine mm_icmp_ge 56 dX8_trade_50 (by decide) (fun c_50 => ?_) (fun c_50 => ?_)
            · skip
              have hle := (nI_leI (by omega) (by omega)).mp c_50
              rw [if_neg (by omega)] at hsp
              refine mm_aload_n dX8_trade_56 rfl rfl ?_
              refine mm_Vv (N := mX8_changes) (ci := 8) (as := []) dX8_trade_57 lk_X8_78 okX8_changes (by decide) rfl (by decide) rfl (by assumption) rfl (by decide) (r_changes hM0 hh) (fun J2 hc => ?_)
              have hs2 := hc.s
              refine mm_aload_n dX8_trade_60 rfl rfl ?_
              refine mm_iload_n dX8_trade_61 rfl rfl ?_
              refine mm_iload_n dX8_trade_62 rfl rfl ?_
              refine mm_iload dX8_trade_63 rfl ?_
              refine mm_Vi (N := mX8_goes) (ci := 8) (as := [_, _, _]) dX8_trade_65 lk_X8_111 okX8_goes (by decide) rfl (by decide) rfl (by assumption) rfl (by decide) (inv_goes hM0 hB6 hL6 (by rw [hs2]; exact hbh) hC1 (by rw [hs2]; exact hle)) (fun r3 J3 hq => ?_)
              obtain ⟨rfl, g1, g2⟩ := hq
              rw [hs2] at g1
              refine mm_istore dX8_trade_68 (Nat.le_of_ble_eq_true rfl) ?_
              refine mm_aload_n dX8_trade_70 rfl rfl ?_
              refine mm_iload_n dX8_trade_71 rfl rfl ?_
              refine mm_iload_n dX8_trade_72 rfl rfl ?_
              refine mm_iload dX8_trade_73 rfl ?_
              refine mm_iload dX8_trade_75 rfl ?_
              refine mm_iload_n dX8_trade_77 rfl rfl ?_
              refine mm_Vv (N := mX8_comes) (ci := 8) (as := [_, _, _, _, _]) dX8_trade_78 lk_X8_128 okX8_comes (by decide) rfl (by decide) rfl (by assumption) rfl (by decide) (r_comes hM0 hT6 hL6 (by omega)) (fun J4 hq => ?_)
              obtain ⟨g3, g4⟩ := hq
              rw [g1] at g3
              have e6 : J4 (m + 1) 6 = nI (sv (I (m + 1)) 6) := by rw [g3, sp_comes_at (by omega) (by omega) (by omega) (by omega), sp_goes_at (by omega) (by omega)]; exact hi.1.2.2.2.1.1
              refine mm_aload_n dX8_trade_81 rfl rfl ?_
              refine mm_iconst 1 dX8_trade_82 rfl ?_
              refine mm_iload_n dX8_trade_83 rfl rfl ?_
              refine mm_iload_n dX8_trade_84 rfl rfl ?_
              refine mm_iload dX8_trade_85 rfl ?_
              refine mm_iload dX8_trade_87 rfl ?_
              refine mm_iload_n dX8_trade_89 rfl rfl ?_
              refine mm_Vv (N := mX8_enters) (ci := 8) (as := [_, _, _, _, _, _]) dX8_trade_90 lk_X8_114 okX8_enters (by decide) rfl (by decide) rfl (by assumption) rfl (by decide) (r_enters hM0 e6 hi.1.2.2.2.1.2) (fun J5 hq => ?_)
              obtain ⟨g5, g6⟩ := hq
              rw [g3] at g5
              have e7 : J5 (m + 1) (136 + 18 * T + 3 * L) = I (m + 1) (136 + 18 * T + 3 * L) + nI C := by rw [g5, sp_enter_at (by omega) (by omega), sp_comes_h hT6 (by omega), sp_goes_at (by omega) (by omega)]
              refine mm_iload dX8_trade_93 rfl ?_
              refine mm_if_ge 103 dX8_trade_95 (by decide) (fun c_95 => ?_) (fun c_95 => absurd (nI_pos' (by rw [hs2]; exact share_lt hle hbh.2.2.2)) c_95)
              refine mm_aload_n dX8_trade_103 rfl rfl ?_
              refine mm_iload_n dX8_trade_104 rfl rfl ?_
              refine mm_iload_n dX8_trade_105 rfl rfl ?_
              refine mm_Vi (N := mX8_holds) (ci := 8) (as := [_, _]) dX8_trade_106 lk_X8_44 okX8_holds (by decide) rfl (by decide) rfl (by assumption) rfl (by decide) (r_holds hM0 hT6 hL6) (fun r3 J6 hq => ?_)
              obtain ⟨rfl, hJ⟩ := hq
              subst J6
              rw [e7]
              refine mm_iret dX8_trade_109 rfl ?_
              refine ⟨rfl, _, rfl, ?_⟩
              rw [hsp]
              refine ⟨rfl, g5, r_op.yes ?_ r_fr.rf hc (fun c q1 q2 q3 => by rw [g6 c q2, g4 c q2, g2 c q2]) (fun j hj => by rw [g6 m (by omega), g4 m (by omega), g2 m (by omega)])⟩
              show 0 ≤ I (m + 1) (136 + 18 * T + 3 * L) + nI C
              rw [hth.1, nI_add]
              exact nI_pos' (by omega)
            · skip
              have hgt : sv (I (m + 1)) (136 + 18 * B + 3 * L) < C := Nat.not_le.mp fun q => c_50 (nI_le q (by omega))
              rw [if_pos hgt] at hsp
              refine mm_ldc dX8_trade_53 ct_X8_91 ?_
              refine mm_iret dX8_trade_55 rfl ?_
              exact ⟨rfl, _, rfl, r_Q_err hsp (by decide)⟩
          · skip
            have n5 := if_no c_36
            refine mm_ldc dX8_trade_39 ct_X8_76 ?_
            refine mm_iret dX8_trade_41 rfl ?_
            first
              | exact ⟨rfl, _, rfl, r_Q_err (if_pos (fun q => n1 q.1)) (by decide)⟩
              | exact ⟨rfl, _, rfl, r_Q_err (if_pos (fun q => n2 q.2.1)) (by decide)⟩
              | exact ⟨rfl, _, rfl, r_Q_err (if_pos (fun q => n3 q.2.2.1)) (by decide)⟩
              | exact ⟨rfl, _, rfl, r_Q_err (if_pos (fun q => n5 q.2.2.2.2)) (by decide)⟩
              | exact ⟨rfl, _, rfl, r_Q_err (if_pos (fun q => q.2.2.2.1 c_26)) (by decide)⟩
set_option maxRecDepth 100000 in
set_option maxHeartbeats 4000000 in
theorem r_redeem {S : mm_S} {I : mm_I} {m n : Nat} {hs : Nat → Nat → Int32} {l b c : Int32} (hM : mm_ref S m) (hi : Inv (I (m + 1))) (hh : I m 4 = 0 → hist_r I m n hs) : mm_ci mX8_redeem [.ref m, .int l, .int b, .int c] S I (r_Q m n hs I (sp_redeem (I (m + 1)) l b c)) := by
  have hM0 := hM
  obtain ⟨hk, hp0, hp1, hp2, hp5, hp7, hp15, hk1, hk2, hk3, hk4, hk5, hk6⟩ := hM
  have hx : ∀ n, n < 316 → vp_in (nI n) 316 := fun n h => vp_in_nI h (by omega)
  refine mm_ci.of okX8_redeem rfl (Nat.le_of_ble_eq_true rfl) (lv := [(0, .ref m), (1, .int l), (2, .int b), (3, .int c)]) rfl ?_
  refine mm_aload_n dX8_redeem_0 rfl rfl ?_
  refine mm_iload_n dX8_redeem_1 rfl rfl ?_
  refine mm_Vi (N := mX8_isLot) (ci := 8) (as := [_]) dX8_redeem_2 lk_X8_81 okX8_isLot (by decide) rfl (by decide) rfl (by assumption) rfl (by decide) (r_isLot hM0) (fun r1 J1 hq => ?_)
  obtain ⟨rfl, hJ⟩ := hq
  subst J1
  refine mm_if_eq 27 dX8_redeem_5 (by decide) (fun c_5 => ?_) (fun c_5 => ?_)
  · skip
    have n1 := if_no c_5
    refine mm_ldc dX8_redeem_27 ct_X8_76 ?_
    refine mm_iret dX8_redeem_29 rfl ?_
    first
      | exact ⟨rfl, _, rfl, r_Q_err (if_pos (fun q => n1 q.1)) (by decide)⟩
      | exact ⟨rfl, _, rfl, r_Q_err (if_pos (fun q => n2 q.2.1)) (by decide)⟩
      | exact ⟨rfl, _, rfl, r_Q_err (if_pos (fun q => n3 q.2.2)) (by decide)⟩
  · skip
    have y1 := if_yes c_5
    obtain ⟨L, hLn, hL6, rfl, hLc⟩ := inv_l hi y1
    refine mm_aload_n dX8_redeem_8 rfl rfl ?_
    refine mm_iload_n dX8_redeem_9 rfl rfl ?_
    refine mm_Vi (N := mX8_isBuyer) (ci := 8) (as := [_]) dX8_redeem_10 lk_X8_118 okX8_isBuyer (by decide) rfl (by decide) rfl (by assumption) rfl (by decide) (r_isBuyer hM0) (fun r1 J1 hq => ?_)
    obtain ⟨rfl, hJ⟩ := hq
    subst J1
    refine mm_if_eq 27 dX8_redeem_13 (by decide) (fun c_13 => ?_) (fun c_13 => ?_)
    · skip
      have n2 := if_no c_13
      refine mm_ldc dX8_redeem_27 ct_X8_76 ?_
      refine mm_iret dX8_redeem_29 rfl ?_
      first
        | exact ⟨rfl, _, rfl, r_Q_err (if_pos (fun q => n1 q.1)) (by decide)⟩
        | exact ⟨rfl, _, rfl, r_Q_err (if_pos (fun q => n2 q.2.1)) (by decide)⟩
        | exact ⟨rfl, _, rfl, r_Q_err (if_pos (fun q => n3 q.2.2)) (by decide)⟩
    · skip
      have y2 := if_yes c_13
      obtain ⟨B, hBn, hB6, rfl, hBc⟩ := inv_b hi y2
      refine mm_iload_n dX8_redeem_16 rfl rfl ?_
      refine mm_iconst 1 dX8_redeem_17 rfl ?_
      refine mm_sipush 999 dX8_redeem_18 rfl ?_
      refine mm_Si (N := mX8_in) (as := [_, _, _]) dX8_redeem_21 lk_X8_72 okX8_in (by decide) rfl rfl (by decide) r_in (fun r1 J1 hq => ?_)
      obtain ⟨rfl, hJ⟩ := hq
      subst J1
      refine mm_if_ne 30 dX8_redeem_24 (by decide) (fun c_24 => ?_) (fun c_24 => ?_)
      · skip
        have y3 := if_yes c_24
        obtain ⟨C, hC1, hC9, rfl, hCc⟩ := int_p (n := 999) rfl (by omega) y3
        have hlt := hi.2.1 L hL6
        have hbh := inv_h hi hL6 hB6
        have hsp : sp_redeem (I (m + 1)) (nI L) (nI B) (nI C) = if ¬ (¬ sv (I (m + 1)) (13 + 20 * L) = 0 ∧ C ≤ sv (I (m + 1)) (136 + 18 * B + 3 * L)) then (-2000000002, I (m + 1))
          else (I (m + 1) (14 + 20 * L) - nI C,
            sp_enter (upd (upd (upd (upd (sp_goes (I (m + 1)) B L C) (138 + 18 * B + 3 * L) (I (m + 1) (138 + 18 * B + 3 * L) + nI C)) (14 + 20 * L) (I (m + 1) (14 + 20 * L) - nI C)) (16 + 20 * L) (I (m + 1) (16 + 20 * L) + nI C)) 4 (I (m + 1) 4 + nI C)) 3 (nI L) (nI B) (nI C) (-2000000004) (-2000000004)) := by
          unfold sp_redeem
          rw [if_neg (fun q => q ⟨y1, y2, y3⟩), hLc, hBc, hCc]
        refine mm_aload_n dX8_redeem_30 rfl rfl ?_
        refine mm_iload_n dX8_redeem_31 rfl rfl ?_
        refine mm_Vi (N := mX8_isOpen) (ci := 8) (as := [_]) dX8_redeem_32 lk_X8_85 okX8_isOpen (by decide) rfl (by decide) rfl (by assumption) rfl (by decide) (r_isOpen hM0 hL6) (fun r1 J1 hq => ?_)
        obtain ⟨rfl, hJ⟩ := hq
        subst J1
        refine mm_if_ne 48 dX8_redeem_35 (by decide) (fun c_35 => ?_) (fun c_35 => ?_)
        · skip
          have y4 := if_yes c_35
          refine mm_ldc dX8_redeem_48 ct_X8_91 ?_
          refine mm_iret dX8_redeem_50 rfl ?_
          first
            | exact ⟨rfl, _, rfl, r_Q_err hsp (by decide)⟩
            | exact ⟨rfl, _, rfl, r_Q_err (by rw [hsp, if_pos (fun q => q.1 ((inv_open hi hL6).mp y4))]) (by decide)⟩
        · skip
          have n4 := if_no c_35
          refine mm_aload_n dX8_redeem_38 rfl rfl ?_
          refine mm_iload_n dX8_redeem_39 rfl rfl ?_
          refine mm_iload_n dX8_redeem_40 rfl rfl ?_
          refine mm_Vi (N := mX8_holds) (ci := 8) (as := [_, _]) dX8_redeem_41 lk_X8_44 okX8_holds (by decide) rfl (by decide) rfl (by assumption) rfl (by decide) (r_holds hM0 hB6 hL6) (fun r1 J1 hq => ?_)
          obtain ⟨rfl, hJ⟩ := hq
          subst J1
          rw [hbh.1]
          refine mm_iload_n dX8_redeem_44 rfl rfl ?_
          refine mm_icmp_ge 51 dX8_redeem_45 (by decide) (fun c_45 => ?_) (fun c_45 => ?_)
          · skip
            have hle := (nI_leI (by omega) (by omega)).mp c_45
            have hcl : ¬ sv (I (m + 1)) (13 + 20 * L) = 0 := fun q => n4 ((inv_open hi hL6).mpr q)
            rw [if_neg (fun q => q ⟨hcl, hle⟩)] at hsp
            have hsh := hlt.2.2.2.2.2.1
            have hsp1 : sv (I (m + 1)) (13 + 20 * L) = 1 := by have := hlt.2.2.2.2.1.1; omega
            have hh14 := hlt.2.2.2.2.2.2.1.2 hsp1
            have hhs : sv (I (m + 1)) (136 + 18 * B + 3 * L) ≤ hsum (I (m + 1)) L := ws_sum_ge (w := fun b => sv (I (m + 1)) (136 + 18 * b + 3 * L)) 6 B hB6
            have f14 : I (m + 1) (14 + 20 * L) = nI (sv (I (m + 1)) (14 + 20 * L)) := inv_f hlt 5 (by omega)
            refine mm_aload_n dX8_redeem_51 rfl rfl ?_
            refine mm_Vv (N := mX8_changes) (ci := 8) (as := []) dX8_redeem_52 lk_X8_78 okX8_changes (by decide) rfl (by decide) rfl (by assumption) rfl (by decide) (r_changes hM0 hh) (fun J2 hc => ?_)
            have hs2 := hc.s
            refine mm_aload_n dX8_redeem_55 rfl rfl ?_
            refine mm_iload_n dX8_redeem_56 rfl rfl ?_
            refine mm_iload_n dX8_redeem_57 rfl rfl ?_
            refine mm_iload_n dX8_redeem_58 rfl rfl ?_
            refine mm_Vi (N := mX8_goes) (ci := 8) (as := [_, _, _]) dX8_redeem_59 lk_X8_111 okX8_goes (by decide) rfl (by decide) rfl (by assumption) rfl (by decide) (inv_goes hM0 hB6 hL6 (by rw [hs2]; exact hbh) hC1 (by rw [hs2]; exact hle)) (fun r3 J3 hq => ?_)
            obtain ⟨rfl, g1, g2⟩ := hq
            rw [hs2] at g1
            refine mm_istore dX8_redeem_62 (Nat.le_of_ble_eq_true rfl) ?_
            refine mm_aload_n dX8_redeem_64 rfl rfl ?_
            refine mm_getR dX8_redeem_65 fl_X8_7 rfl (by assumption) (by assumption) ?_
            refine mm_iload_n dX8_redeem_68 rfl rfl ?_
            refine mm_iload_n dX8_redeem_69 rfl rfl ?_
            refine mm_iconst 2 dX8_redeem_70 rfl ?_
            refine mm_Si (N := mX8_hold) (as := [_, _, _]) dX8_redeem_71 lk_X8_40 okX8_hold (by decide) rfl rfl (by first | decide | (simp [Value.category])) (r_hold (f := 2)) (fun r4 J4 hq => ?_)
            obtain ⟨rfl, hJ⟩ := hq
            subst J4
            rw [show 136 + 18 * B + 3 * L + 2 = 138 + 18 * B + 3 * L by omega]
            refine mm_dup2 dX8_redeem_74 rfl rfl ?_
            refine mm_iald dX8_redeem_75 (by assumption) (hx (138 + 18 * B + 3 * L) (by omega)) ?_
            refine mm_tope (y := I (m + 1) (138 + 18 * B + 3 * L)) (by rw [nI_clamp (by omega), g1, sp_goes_at (by omega) (by omega)]) ?_
            refine mm_iload_n dX8_redeem_76 rfl rfl ?_
            refine mm_iadd dX8_redeem_77 ?_
            refine mm_iast dX8_redeem_78 (by assumption) (hx (138 + 18 * B + 3 * L) (by omega)) ?_
            rw [nI_clamp (by omega)]
            refine mm_aload_n dX8_redeem_79 rfl rfl ?_
            refine mm_getR dX8_redeem_80 fl_X8_7 rfl (by assumption) (by assumption) ?_
            refine mm_bipush 9 dX8_redeem_83 rfl ?_
            refine mm_bipush 20 dX8_redeem_85 rfl ?_
            refine mm_iload_n dX8_redeem_87 rfl rfl ?_
            refine mm_imul dX8_redeem_88 ?_
            refine mm_tope (y := nI (20 * L)) (pk_mul 20 L) ?_
            refine mm_iadd dX8_redeem_89 ?_
            refine mm_tope (y := nI (9 + 20 * L)) (nI_add 9 _) ?_
            refine mm_iconst 5 dX8_redeem_90 rfl ?_
            refine mm_iadd dX8_redeem_91 ?_
            refine mm_tope (y := nI (14 + 20 * L)) ((nI_add (9 + 20 * L) 5).trans (congrArg nI (by omega))) ?_
            refine mm_dup2 dX8_redeem_92 rfl rfl ?_
            refine mm_iald dX8_redeem_93 (by assumption) (hx (14 + 20 * L) (by omega)) ?_
            refine mm_tope (y := I (m + 1) (14 + 20 * L)) (by rw [nI_clamp (by omega), mm_wr_k (by omega), g1, sp_goes_at (by omega) (by omega)]) ?_
            refine mm_iload_n dX8_redeem_94 rfl rfl ?_
            refine mm_isub dX8_redeem_95 ?_
            refine mm_iast dX8_redeem_96 (by assumption) (hx (14 + 20 * L) (by omega)) ?_
            rw [nI_clamp (by omega)]
            refine mm_aload_n dX8_redeem_97 rfl rfl ?_
            refine mm_getR dX8_redeem_98 fl_X8_7 rfl (by assumption) (by assumption) ?_
            refine mm_bipush 9 dX8_redeem_101 rfl ?_
            refine mm_bipush 20 dX8_redeem_103 rfl ?_
            refine mm_iload_n dX8_redeem_105 rfl rfl ?_
            refine mm_imul dX8_redeem_106 ?_
            refine mm_tope (y := nI (20 * L)) (pk_mul 20 L) ?_
            refine mm_iadd dX8_redeem_107 ?_
            refine mm_tope (y := nI (9 + 20 * L)) (nI_add 9 _) ?_
            refine mm_bipush 7 dX8_redeem_108 rfl ?_
            refine mm_iadd dX8_redeem_110 ?_
            refine mm_tope (y := nI (16 + 20 * L)) ((nI_add (9 + 20 * L) 7).trans (congrArg nI (by omega))) ?_
            refine mm_dup2 dX8_redeem_111 rfl rfl ?_
            refine mm_iald dX8_redeem_112 (by assumption) (hx (16 + 20 * L) (by omega)) ?_
            refine mm_tope (y := I (m + 1) (16 + 20 * L)) (by rw [nI_clamp (by omega), mm_wr_k (by omega), mm_wr_k (by omega), g1, sp_goes_at (by omega) (by omega)]) ?_
            refine mm_iload_n dX8_redeem_113 rfl rfl ?_
            refine mm_iadd dX8_redeem_114 ?_
            refine mm_iast dX8_redeem_115 (by assumption) (hx (16 + 20 * L) (by omega)) ?_
            rw [nI_clamp (by omega)]
            refine mm_aload_n dX8_redeem_116 rfl rfl ?_
            refine mm_getR dX8_redeem_117 fl_X8_7 rfl (by assumption) (by assumption) ?_
            refine mm_iconst 4 dX8_redeem_120 rfl ?_
            refine mm_dup2 dX8_redeem_121 rfl rfl ?_
            refine mm_iald dX8_redeem_122 (by assumption) (hx 4 (by omega)) ?_
            refine mm_tope (y := I (m + 1) 4) (by show mm_wr _ _ _ _ _ 4 = _; rw [mm_wr_k (by omega), mm_wr_k (by omega), mm_wr_k (by omega), g1, sp_goes_at (by omega) (by omega)]) ?_
            refine mm_iload_n dX8_redeem_123 rfl rfl ?_
            refine mm_iadd dX8_redeem_124 ?_
            refine mm_iast dX8_redeem_125 (by assumption) (hx 4 (by omega)) ?_
            have g3 : mm_wr (mm_wr (mm_wr (mm_wr J3 (m + 1) (138 + 18 * B + 3 * L) (I (m + 1) (138 + 18 * B + 3 * L) + nI C)) (m + 1) (14 + 20 * L) (I (m + 1) (14 + 20 * L) - nI C)) (m + 1) (16 + 20 * L) (I (m + 1) (16 + 20 * L) + nI C)) (m + 1) 4 (I (m + 1) 4 + nI C) (m + 1) = upd (upd (upd (upd (sp_goes (I (m + 1)) B L C) (138 + 18 * B + 3 * L) (I (m + 1) (138 + 18 * B + 3 * L) + nI C)) (14 + 20 * L) (I (m + 1) (14 + 20 * L) - nI C)) (16 + 20 * L) (I (m + 1) (16 + 20 * L) + nI C)) 4 (I (m + 1) 4 + nI C) := by rw [mm_wr_upd, mm_wr_upd, mm_wr_upd, mm_wr_upd, g1]
            have g4 : ∀ c, c ≠ m + 1 → mm_wr (mm_wr (mm_wr (mm_wr J3 (m + 1) (138 + 18 * B + 3 * L) (I (m + 1) (138 + 18 * B + 3 * L) + nI C)) (m + 1) (14 + 20 * L) (I (m + 1) (14 + 20 * L) - nI C)) (m + 1) (16 + 20 * L) (I (m + 1) (16 + 20 * L) + nI C)) (m + 1) 4 (I (m + 1) 4 + nI C) c = J2 c := fun c hc => by rw [mm_wr_row hc, mm_wr_row hc, mm_wr_row hc, mm_wr_row hc, g2 c hc]
            have e4 : (4 : Int32).toNatClampNeg = 4 := rfl
            rw [e4]
            generalize mm_wr (mm_wr (mm_wr (mm_wr J3 (m + 1) (138 + 18 * B + 3 * L) (I (m + 1) (138 + 18 * B + 3 * L) + nI C)) (m + 1) (14 + 20 * L) (I (m + 1) (14 + 20 * L) - nI C)) (m + 1) (16 + 20 * L) (I (m + 1) (16 + 20 * L) + nI C)) (m + 1) 4 (I (m + 1) 4 + nI C) = J5 at g3 g4 ⊢
            have e6 : J5 (m + 1) 6 = nI (sv (I (m + 1)) 6) := by
              rw [g3]
              unfold upd
              rw [if_neg (by omega), if_neg (by omega), if_neg (by omega), if_neg (by omega), sp_goes_at (by omega) (by omega)]
              exact hi.1.2.2.2.1.1
            refine mm_aload_n dX8_redeem_126 rfl rfl ?_
            refine mm_iconst 3 dX8_redeem_127 rfl ?_
            refine mm_iload_n dX8_redeem_128 rfl rfl ?_
            refine mm_iload_n dX8_redeem_129 rfl rfl ?_
            refine mm_iload_n dX8_redeem_130 rfl rfl ?_
            refine mm_ldc dX8_redeem_131 ct_X8_57 ?_
            refine mm_ldc dX8_redeem_133 ct_X8_57 ?_
            refine mm_Vv (N := mX8_enters) (ci := 8) (as := [_, _, _, _, _, _]) dX8_redeem_135 lk_X8_114 okX8_enters (by decide) rfl (by decide) rfl (by assumption) rfl (by decide) (r_enters hM0 e6 hi.1.2.2.2.1.2) (fun J6 hq => ?_)
            obtain ⟨g5, g6⟩ := hq
            have e7 : J6 (m + 1) (14 + 20 * L) = I (m + 1) (14 + 20 * L) - nI C := by
              rw [g5, sp_enter_at (by omega) (by omega), g3]
              unfold upd
              rw [if_neg (by omega), if_neg (by omega), if_pos rfl]
            rw [g3] at g5
            refine mm_iload dX8_redeem_138 rfl ?_
            refine mm_if_ge 148 dX8_redeem_140 (by decide) (fun c_140 => ?_) (fun c_140 => absurd (nI_pos' (by rw [hs2]; exact share_lt hle hbh.2.2.2)) c_140)
            refine mm_aload_n dX8_redeem_148 rfl rfl ?_
            refine mm_iload_n dX8_redeem_149 rfl rfl ?_
            refine mm_iconst 5 dX8_redeem_150 rfl ?_
            refine mm_Vi (N := mX8_of) (ci := 8) (as := [_, _]) dX8_redeem_151 lk_X8_36 okX8_of (by decide) rfl (by decide) rfl (by assumption) rfl (by decide) (r_of (f := 5) hM0 hL6 (by omega)) (fun r5 J7 hq => ?_)
            obtain ⟨rfl, hJ⟩ := hq
            subst J7
            rw [show 9 + 20 * L + 5 = 14 + 20 * L by omega, e7]
            refine mm_iret dX8_redeem_154 rfl ?_
            refine ⟨rfl, _, rfl, ?_⟩
            rw [hsp]
            refine ⟨rfl, g5, r_op.yes ?_ r_fr.rf hc (fun c q1 q2 q3 => by rw [g6 c q2, g4 c q2]) (fun j hj => by rw [g6 m (by omega), g4 m (by omega)])⟩
            show 0 ≤ I (m + 1) (14 + 20 * L) - nI C
            rw [f14, pk_sub (by omega)]
            exact nI_pos' (by omega)
          · skip
            have hgt : ¬ C ≤ sv (I (m + 1)) (136 + 18 * B + 3 * L) := fun q => c_45 (nI_le q (by omega))
            rw [if_pos (fun q => hgt q.2)] at hsp
            refine mm_ldc dX8_redeem_48 ct_X8_91 ?_
            refine mm_iret dX8_redeem_50 rfl ?_
            first
              | exact ⟨rfl, _, rfl, r_Q_err hsp (by decide)⟩
              | exact ⟨rfl, _, rfl, r_Q_err (by rw [hsp, if_pos (fun q => q.1 ((inv_open hi hL6).mp y4))]) (by decide)⟩
      · skip
        have n3 := if_no c_24
        refine mm_ldc dX8_redeem_27 ct_X8_76 ?_
        refine mm_iret dX8_redeem_29 rfl ?_
        first
          | exact ⟨rfl, _, rfl, r_Q_err (if_pos (fun q => n1 q.1)) (by decide)⟩
          | exact ⟨rfl, _, rfl, r_Q_err (if_pos (fun q => n2 q.2.1)) (by decide)⟩
          | exact ⟨rfl, _, rfl, r_Q_err (if_pos (fun q => n3 q.2.2)) (by decide)⟩
