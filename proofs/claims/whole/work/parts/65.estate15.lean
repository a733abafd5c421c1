/-! THE CLASS: barrels, holdings, accounts, numbers -/
theorem is_sum_cg {f g : Nat → Int32} : ∀ n, (∀ k, k < n → f k = g k) → is_sum f n = is_sum g n
  | 0, _ => rfl
  | n + 1, h => by
    show is_sum f n + f n = is_sum g n + g n
    rw [is_sum_cg n (fun k hk => h k (Nat.lt_succ_of_lt hk)), h n (Nat.lt_succ_self n)]
theorem max_sub {a b : Nat} (ha : a < 2 ^ 30) (hb : b < 2 ^ 30) : (if (0 : Int32) < nI a - nI b then nI a - nI b else 0) = nI (a - b) := by
  by_cases h : b ≤ a
  · rw [pk_sub h]
    by_cases h0 : a - b = 0
    · rw [h0]; rfl
    · rw [if_pos (show (0 : Int32) < nI (a - b) from nI_lt (a := 0) (b := a - b) (by omega) (by omega))]
  · rw [if_neg, show a - b = 0 by omega]
    · rfl
    · intro q
      have q1 := Int32.lt_iff_toInt_lt.mp q
      rw [pk_sub_toInt ha hb] at q1
      have q2 : (0 : Int32).toInt = 0 := rfl
      omega
theorem cnt_in {s : Nat → Int32} {p t : Int32} {F : Nat} (h : F ≤ 11) : sq_count s p t (nI F) = sq_cntF s p t F := by
  unfold sq_count
  rw [if_pos ⟨nI_pos' (by omega), nI_le (b := 11) h (by omega)⟩, nI_clamp (by omega)]
theorem cnt_mid {s : Nat → Int32} {p t : Int32} {F : Nat} (h : 11 < F) (h2 : F < 20) : sq_count s p t (nI F) = -2000000001 := by
  unfold sq_count
  rw [if_neg (fun q => nI_ge (a := 11) h (by omega) q.2), if_neg (fun q => nI_ge (b := 20) h2 (by omega) q.1)]
theorem cnt_hi {s : Nat → Int32} {p t : Int32} {F : Nat} (h : 20 ≤ F) (h2 : F ≤ 21) : sq_count s p t (nI F) = s (F - 13) := by
  unfold sq_count
  rw [if_neg (fun q => nI_ge (a := 11) (b := F) (by omega) (by omega) q.2), if_pos ⟨nI_le (a := 20) h (by omega), nI_le (b := 21) h2 (by omega)⟩, nI_clamp (by omega), show 7 + F - 20 = F - 13 by omega]
theorem cnt_out {s : Nat → Int32} {p t f : Int32} (h : ¬ (0 ≤ f ∧ f ≤ 21)) : sq_count s p t f = -2000000001 := by
  unfold sq_count
  rw [if_neg (fun q => h ⟨q.1, Int32.le_trans q.2 (by decide)⟩), if_neg (fun q => h ⟨Int32.le_trans (by decide) q.1, q.2⟩)]

set_option maxRecDepth 100000 in
set_option maxHeartbeats 4000000 in
theorem c_barrelValue {S : mm_S} {I : mm_I} {e : Nat} {s : Nat → Int32} {l k : Int32} (hE : mm_est S e) (hs : est_at I e s) (hi : Inv s) : mm_ci mX2_barrelValue [.ref e, .int l, .int k] S I (fun q J => q = sq_barrel s l k ∧ J = I) := by
  have hE0 := hE
  obtain ⟨ek, ep0, ep1, ep2, ep3, ek1, ek2, ebk, ebar, elots⟩ := hE
  refine mm_ci.of okX2_barrelValue rfl (Nat.le_of_ble_eq_true rfl) (lv := [(0, .ref e), (1, .int l), (2, .int k)]) rfl ?_
  refine mm_aload_n dX2_barrelValue_0 rfl rfl ?_
  refine mm_iload_n dX2_barrelValue_1 rfl rfl ?_
  refine mm_Vr (N := mX2_lotAt) (ci := 2) (as := [_]) dX2_barrelValue_2 lk_X2_83 okX2_lotAt (by decide) rfl (by decide) rfl (by assumption) rfl (by decide) (c_lotAt hE0 hs hi) (fun r1 J1 hq => ?_)
  obtain ⟨rfl, hJ⟩ := hq
  subst J1
  by_cases y1 : 0 ≤ l ∧ l < s 0
  · rw [if_pos y1]
    obtain ⟨L, hLn, hL6, rfl, hLc⟩ := inv_l hi y1
    rw [hLc]
    obtain ⟨lk, lp0, lp1, lp2, lp3, lbar, lk3, lk4, lk5⟩ := (elots L hL6).2
    have hL := (elots L hL6).2
    have hlat := hs.2.2.2.2 L hL6
    have hok := (hi.2.1 L hL6).2.1
    have hlt := hi.2.1 L hL6
    have bk := lbar.1
    have lw := lbar.2.2
    have lbp := lbar.2.1
    have hn12 := hok.1
    refine mm_astore_n dX2_barrelValue_5 rfl (Nat.le_of_ble_eq_true rfl) ?_
    refine mm_aload_n dX2_barrelValue_6 rfl rfl ?_
    refine mm_ifnull dX2_barrelValue_7 ?_
    refine mm_iload_n dX2_barrelValue_10 rfl rfl ?_
    refine mm_if_ge 17 dX2_barrelValue_11 (by decide) (fun c_11 => ?_) (fun c_11 => ?_)
    · skip
      have y2 := c_11
      obtain ⟨K, hK31, rfl, hKc⟩ := int_any y2
      have hsp : sq_barrel s (nI L) (nI K) = if K < sv s (9 + 20 * L) then s (17 + 20 * L + K) else -2000000004 := by
        unfold sq_barrel
        rw [if_neg (fun q => q ⟨y1, y2⟩), hLc, hKc]
      refine mm_iload_n dX2_barrelValue_17 rfl rfl ?_
      refine mm_aload_n dX2_barrelValue_18 rfl rfl ?_
      refine mm_getR dX2_barrelValue_19 fl_X2_87 rfl (by assumption) (by assumption) ?_
      refine mm_getI dX2_barrelValue_22 fl_X2_119 rfl (by assumption) ?_
      refine mm_tope (y := nI (sv s (9 + 20 * L))) hlat.1.1 ?_
      refine mm_icmp_ge 40 dX2_barrelValue_25 (by decide) (fun c_25 => ?_) (fun c_25 => ?_)
      · skip
        have z1 : ¬ K < sv s (9 + 20 * L) := fun q => nI_ge q (by omega) c_25
        refine mm_ldc dX2_barrelValue_40 ct_X2_154 ?_
        refine mm_iret dX2_barrelValue_42 rfl ?_
        exact ⟨rfl, _, rfl, (hsp.trans (if_neg z1)).symm, rfl⟩
      · skip
        have y3 : K < sv s (9 + 20 * L) := Nat.not_le.mp fun q => c_25 (nI_le q (by omega))
        refine mm_iload_n dX2_barrelValue_28 rfl rfl ?_
        refine mm_aload_n dX2_barrelValue_29 rfl rfl ?_
        refine mm_getR dX2_barrelValue_30 fl_X2_87 rfl (by assumption) (by assumption) ?_
        refine mm_getR dX2_barrelValue_33 fl_X2_179 rfl (by assumption) (by assumption) ?_
        refine mm_alen (t := 0) dX2_barrelValue_36 (by assumption) (by decide) 12 rfl ?_
        refine mm_icmp_lt 43 dX2_barrelValue_37 (by decide) (fun c_37 => ?_) (fun c_37 => absurd (nI_lt (b := 12) (by omega) (by omega)) c_37)
        refine mm_aload_n dX2_barrelValue_43 rfl rfl ?_
        refine mm_getR dX2_barrelValue_44 fl_X2_87 rfl (by assumption) (by assumption) ?_
        refine mm_getR dX2_barrelValue_47 fl_X2_179 rfl (by assumption) (by assumption) ?_
        refine mm_iload_n dX2_barrelValue_50 rfl rfl ?_
        refine mm_iald dX2_barrelValue_51 (by assumption) (vp_in_nI (n := K) (by omega) (by omega)) ?_
        refine mm_tope (y := s (17 + 20 * L + K)) ((congrArg (I (e + 7 + 6 * L + 1 + 1)) (nI_clamp hK31)).trans ((hlat.1.2.2 K (by omega)).trans (inv_w hlt y3).symm)) ?_
        refine mm_iret dX2_barrelValue_52 rfl ?_
        exact ⟨rfl, _, rfl, (hsp.trans (if_pos y3)).symm, rfl⟩
    · skip
      have n2 := c_11
      refine mm_ldc dX2_barrelValue_14 ct_X2_81 ?_
      refine mm_iret dX2_barrelValue_16 rfl ?_
      exact ⟨rfl, _, rfl, (if_pos (fun q => n2 q.2)).symm, rfl⟩
  · rw [if_neg y1]
    refine mm_astoreN_n dX2_barrelValue_5 rfl (Nat.le_of_ble_eq_true rfl) ?_
    refine mm_aloadN_n dX2_barrelValue_6 rfl rfl ?_
    refine mm_ifnullN 14 dX2_barrelValue_7 (by decide) ?_
    refine mm_ldc dX2_barrelValue_14 ct_X2_81 ?_
    refine mm_iret dX2_barrelValue_16 rfl ?_
    exact ⟨rfl, _, rfl, (if_pos (fun q => y1 q.1)).symm, rfl⟩
  
set_option maxRecDepth 100000 in
set_option maxHeartbeats 4000000 in
theorem c_meanPaid {S : mm_S} {I : mm_I} {e p h : Nat} (hF : flH) (hB : flB) (hk : (S.2.1 e).1 = 2) (hp : p ≤ 299700) (hh : h ≤ 300) : mm_ci mX2_meanPaid [.ref e, .int (nI p), .int (nI h)] S I (fun q J => q = (if h = 0 then -2000000004 else (flV p h).toInt32) ∧ J = I) := by
  refine mm_ci.of okX2_meanPaid rfl (Nat.le_of_ble_eq_true rfl) (lv := [(0, .ref e), (1, .int (nI p)), (2, .int (nI h))]) rfl ?_
  refine mm_iload_n dX2_meanPaid_0 rfl rfl ?_
  refine mm_if_gt 7 dX2_meanPaid_1 (by decide) (fun c_1 => ?_) (fun c_1 => ?_)
  · skip
    have h0 : 0 < h := Nat.pos_of_ne_zero fun q => by subst q; exact absurd c_1 (by decide)
    have hok := hF p h hp h0 hh
    refine mm_iload_n dX2_meanPaid_7 rfl rfl ?_
    refine mm_i2f dX2_meanPaid_8 ?_
    refine mm_iload_n dX2_meanPaid_9 rfl rfl ?_
    refine mm_i2f dX2_meanPaid_10 ?_
    refine mm_fdiv dX2_meanPaid_11 hok.1 ?_
    refine mm_SNi (N := mX7_floatBits) (as := [_]) dX2_meanPaid_12 lk_X2_198 okX7_floatBits (by decide) rfl rfl (by decide) (c_floatBits (hB p h hp h0 hh)) (fun r1 J1 hq => ?_)
    obtain ⟨rfl, hJ⟩ := hq
    subst J1
    refine mm_iret dX2_meanPaid_15 rfl ?_
    exact ⟨rfl, _, rfl, (if_neg (by omega)).symm, rfl⟩
  · skip
    have h0 : h = 0 := Nat.eq_zero_of_not_pos fun q => c_1 (nI_lt (a := 0) q (by omega))
    refine mm_ldc dX2_meanPaid_4 ct_X2_154 ?_
    refine mm_iret dX2_meanPaid_6 rfl ?_
    exact ⟨rfl, _, rfl, (if_pos h0).symm, rfl⟩
set_option maxRecDepth 100000 in
set_option maxHeartbeats 4000000 in
theorem c_holdingValue {S : mm_S} {I : mm_I} {e : Nat} {s : Nat → Int32} {b l f : Int32} (hF : flH) (hB : flB) (hE : mm_est S e) (hs : est_at I e s) (hi : Inv s) : mm_ci mX2_holdingValue [.ref e, .int b, .int l, .int f] S I (fun q J => q = sq_holding s b l f ∧ J = I) := by
  have hE0 := hE
  obtain ⟨ek, ep0, ep1, ep2, ep3, ek1, ek2, ebk, ebar, elots⟩ := hE
  refine mm_ci.of okX2_holdingValue rfl (Nat.le_of_ble_eq_true rfl) (lv := [(0, .ref e), (1, .int b), (2, .int l), (3, .int f)]) rfl ?_
  refine mm_aload_n dX2_holdingValue_0 rfl rfl ?_
  refine mm_iload_n dX2_holdingValue_1 rfl rfl ?_
  refine mm_Vr (N := mX2_lotAt) (ci := 2) (as := [_]) dX2_holdingValue_2 lk_X2_83 okX2_lotAt (by decide) rfl (by decide) rfl (by assumption) rfl (by decide) (c_lotAt (l := l) hE0 hs hi) (fun r1 J1 hq => ?_)
  obtain ⟨rfl, hJ⟩ := hq
  subst J1
  by_cases y1 : 0 ≤ l ∧ l < s 0
  · rw [if_pos y1]
    obtain ⟨L, hLn, hL6, rfl, hLc⟩ := inv_l hi y1
    rw [hLc]
    obtain ⟨lk, lp0, lp1, lp2, lp3, lbar, lk3, lk4, lk5⟩ := (elots L hL6).2
    have hL := (elots L hL6).2
    have hlat := hs.2.2.2.2 L hL6
    have hok := (hi.2.1 L hL6).2.1
    refine mm_astore dX2_holdingValue_5 (Nat.le_of_ble_eq_true rfl) ?_
    refine mm_aload dX2_holdingValue_7 rfl ?_
    refine mm_ifnull dX2_holdingValue_9 ?_
    refine mm_aload_n dX2_holdingValue_12 rfl rfl ?_
    refine mm_iload_n dX2_holdingValue_13 rfl rfl ?_
    refine mm_Vi (N := mX2_hasBuyer) (ci := 2) (as := [_]) dX2_holdingValue_14 lk_X2_73 okX2_hasBuyer (by decide) rfl (by decide) rfl (by assumption) rfl (by decide) (c_hasBuyer hE0 hs.1.2.1 hi) (fun r2 J2 hq => ?_)
    obtain ⟨rfl, hJ⟩ := hq
    subst J2
    refine mm_if_ne 23 dX2_holdingValue_17 (by decide) (fun c_17 => ?_) (fun c_17 => ?_)
    · skip
      have y2 := if_yes c_17
      obtain ⟨B, hBn, hB6, rfl, hBc⟩ := inv_b hi y2
      have hh := inv_h hi hL6 hB6
      have hlb := hlat.2.1 B hB6
      refine mm_iload_n dX2_holdingValue_23 rfl rfl ?_
      by_cases hf : 0 ≤ f ∧ f ≤ 3
      · obtain ⟨F, hF9, rfl, hFc⟩ := int_n (n := 3) rfl (by omega) hf
        have hsp0 : sq_holding s (nI B) (nI L) (nI F) = if F < 3 then s (136 + 18 * B + 3 * L + F) else sp_mean s B L := by
          unfold sq_holding
          rw [if_neg (fun q => q ⟨y2, y1, hf⟩), hLc, hBc, hFc]
        clear hf hFc
        rcases F with _ | F
        · skip
          have hsp : sq_holding s (nI B) (nI L) (nI 0) = s (136 + 18 * B + 3 * L) := hsp0.trans ((if_pos (by decide)).trans (congrArg s (by omega)))
          refine mm_tableIn 56 dX2_holdingValue_24 (by decide) (by decide) rfl (by decide) ?_
          refine mm_aload dX2_holdingValue_56 rfl ?_
          refine mm_iload_n dX2_holdingValue_58 rfl rfl ?_
          refine mm_Vi (N := mX4_heldBy) (ci := 4) (as := [_]) dX2_holdingValue_59 lk_X2_167 okX4_heldBy (by decide) rfl (by decide) rfl (by assumption) rfl (by decide) (c_heldBy hL hB6) (fun r3 J3 hq => ?_)
          obtain ⟨rfl, hJ⟩ := hq
          subst J3
          rw [hlb.1]
          refine mm_iret dX2_holdingValue_62 rfl ?_
          exact ⟨rfl, _, rfl, (hsp).symm, rfl⟩
        · rcases F with _ | F
          · skip
            have hsp : sq_holding s (nI B) (nI L) (nI 1) = s (137 + 18 * B + 3 * L) := hsp0.trans ((if_pos (by decide)).trans (congrArg s (by omega)))
            refine mm_tableIn 63 dX2_holdingValue_24 (by decide) (by decide) rfl (by decide) ?_
            refine mm_aload dX2_holdingValue_63 rfl ?_
            refine mm_iload_n dX2_holdingValue_65 rfl rfl ?_
            refine mm_Vi (N := mX4_paidBy) (ci := 4) (as := [_]) dX2_holdingValue_66 lk_X2_189 okX4_paidBy (by decide) rfl (by decide) rfl (by assumption) rfl (by decide) (c_paidBy hL hB6) (fun r3 J3 hq => ?_)
            obtain ⟨rfl, hJ⟩ := hq
            subst J3
            rw [hlb.2.1]
            refine mm_iret dX2_holdingValue_69 rfl ?_
            exact ⟨rfl, _, rfl, (hsp).symm, rfl⟩
          · rcases F with _ | F
            · skip
              have hsp : sq_holding s (nI B) (nI L) (nI 2) = s (138 + 18 * B + 3 * L) := hsp0.trans ((if_pos (by decide)).trans (congrArg s (by omega)))
              refine mm_tableIn 70 dX2_holdingValue_24 (by decide) (by decide) rfl (by decide) ?_
              refine mm_aload dX2_holdingValue_70 rfl ?_
              refine mm_iload_n dX2_holdingValue_72 rfl rfl ?_
              refine mm_Vi (N := mX4_deliveredTo) (ci := 4) (as := [_]) dX2_holdingValue_73 lk_X2_192 okX4_deliveredTo (by decide) rfl (by decide) rfl (by assumption) rfl (by decide) (c_deliveredTo hL hB6) (fun r3 J3 hq => ?_)
              obtain ⟨rfl, hJ⟩ := hq
              subst J3
              rw [hlb.2.2]
              refine mm_iret dX2_holdingValue_76 rfl ?_
              exact ⟨rfl, _, rfl, (hsp).symm, rfl⟩
            · rcases F with _ | F
              · skip
                have hsp : sq_holding s (nI B) (nI L) (nI 3) = sp_mean s B L := hsp0.trans (if_neg (by decide))
                refine mm_tableIn 77 dX2_holdingValue_24 (by decide) (by decide) rfl (by decide) ?_
                refine mm_aload_n dX2_holdingValue_77 rfl rfl ?_
                refine mm_aload dX2_holdingValue_78 rfl ?_
                refine mm_iload_n dX2_holdingValue_80 rfl rfl ?_
                refine mm_Vi (N := mX4_paidBy) (ci := 4) (as := [_]) dX2_holdingValue_81 lk_X2_189 okX4_paidBy (by decide) rfl (by decide) rfl (by assumption) rfl (by first | decide | (simp [Value.category])) (c_paidBy hL hB6) (fun r3 J3 hq => ?_)
                obtain ⟨rfl, hJ⟩ := hq
                subst J3
                rw [hlb.2.1, hh.2.2.1]
                refine mm_aload dX2_holdingValue_84 rfl ?_
                refine mm_iload_n dX2_holdingValue_86 rfl rfl ?_
                refine mm_Vi (N := mX4_heldBy) (ci := 4) (as := [_]) dX2_holdingValue_87 lk_X2_167 okX4_heldBy (by decide) rfl (by decide) rfl (by assumption) rfl (by first | decide | (simp [Value.category])) (c_heldBy hL hB6) (fun r3 J3 hq => ?_)
                obtain ⟨rfl, hJ⟩ := hq
                subst J3
                rw [hlb.1, hh.1]
                refine mm_Vi (N := mX2_meanPaid) (ci := 2) (as := [_, _]) dX2_holdingValue_90 lk_X2_195 okX2_meanPaid (by decide) rfl (by decide) rfl (by assumption) rfl (by decide) (c_meanPaid hF hB ek hh.2.2.2 hh.2.1) (fun r3 J3 hq => ?_)
                obtain ⟨rfl, hJ⟩ := hq
                subst J3
                refine mm_iret dX2_holdingValue_93 rfl ?_
                exact ⟨rfl, _, rfl, (hsp).symm, rfl⟩
              · omega
      · have hout : f.toInt < 0 ∨ 3 < f.toInt := int_out hf
        refine mm_tableOut 94 dX2_holdingValue_24 hout (by decide) ?_
        refine mm_ldc dX2_holdingValue_94 ct_X2_81 ?_
        refine mm_iret dX2_holdingValue_96 rfl ?_
        exact ⟨rfl, _, rfl, (if_pos (fun q => hf q.2.2)).symm, rfl⟩
    · skip
      have n2 := if_no c_17
      refine mm_ldc dX2_holdingValue_20 ct_X2_81 ?_
      refine mm_iret dX2_holdingValue_22 rfl ?_
      exact ⟨rfl, _, rfl, (if_pos (fun q => n2 q.1)).symm, rfl⟩
  · rw [if_neg y1]
    refine mm_astoreN dX2_holdingValue_5 (Nat.le_of_ble_eq_true rfl) ?_
    refine mm_aloadN dX2_holdingValue_7 rfl ?_
    refine mm_ifnullN 20 dX2_holdingValue_9 (by decide) ?_
    refine mm_ldc dX2_holdingValue_20 ct_X2_81 ?_
    refine mm_iret dX2_holdingValue_22 rfl ?_
    exact ⟨rfl, _, rfl, (if_pos (fun q => y1 q.2.1)).symm, rfl⟩
  
set_option maxRecDepth 100000 in
set_option maxHeartbeats 4000000 in
theorem c_accountValue {S : mm_S} {I : mm_I} {e : Nat} {s : Nat → Int32} {a : Int32} (hE : mm_est S e) (hs : est_at I e s) (hi : Inv s) : mm_ci mX2_accountValue [.ref e, .int a] S I (fun q J => q = sq_account s a ∧ J = I) := by
  have hE0 := hE
  obtain ⟨ek, ep0, ep1, ep2, ep3, ek1, ek2, ebk, ebar, elots⟩ := hE
  refine mm_ci.of okX2_accountValue rfl (Nat.le_of_ble_eq_true rfl) (lv := [(0, .ref e), (1, .int a)]) rfl ?_
  refine mm_iload_n dX2_accountValue_0 rfl rfl ?_
  refine mm_iconst (-1) dX2_accountValue_1 rfl ?_
  refine mm_icmp_ne 10 dX2_accountValue_2 (by decide) (fun c_2 => ?_) (fun c_2 => ?_)
  · skip
    refine mm_aload_n dX2_accountValue_10 rfl rfl ?_
    refine mm_iload_n dX2_accountValue_11 rfl rfl ?_
    refine mm_Vi (N := mX2_hasBuyer) (ci := 2) (as := [_]) dX2_accountValue_12 lk_X2_73 okX2_hasBuyer (by decide) rfl (by decide) rfl (by assumption) rfl (by decide) (c_hasBuyer hE0 hs.1.2.1 hi) (fun r2 J2 hq => ?_)
    obtain ⟨rfl, hJ⟩ := hq
    subst J2
    refine mm_if_eq 27 dX2_accountValue_15 (by decide) (fun c_15 => ?_) (fun c_15 => ?_)
    · skip
      have n2 := if_no c_15
      refine mm_ldc dX2_accountValue_27 ct_X2_81 ?_
      refine mm_iret dX2_accountValue_29 rfl ?_
      first
        | exact ⟨rfl, _, rfl, ((if_neg c_2).trans (if_neg n2)).symm, rfl⟩
        | exact ⟨rfl, _, rfl, ((if_neg c_2).trans ((if_pos y2).trans (by rw [hBc]))).symm, rfl⟩
    · skip
      have y2 := if_yes c_15
      obtain ⟨B, hBn, hB6, rfl, hBc⟩ := inv_b hi y2
      refine mm_aload_n dX2_accountValue_18 rfl rfl ?_
      refine mm_getR dX2_accountValue_19 fl_X2_17 rfl (by assumption) (by assumption) ?_
      refine mm_iload_n dX2_accountValue_22 rfl rfl ?_
      refine mm_iald dX2_accountValue_23 (by assumption) (vp_in_nI (n := B) (by omega) (by omega)) ?_
      refine mm_tope (y := s (129 + B)) ((congrArg (I (e + 2)) (nI_clamp (by omega))).trans (hs.2.1 B hB6)) ?_
      refine mm_goto 29 dX2_accountValue_24 (by decide) ?_
      refine mm_iret dX2_accountValue_29 rfl ?_
      first
        | exact ⟨rfl, _, rfl, ((if_neg c_2).trans (if_neg n2)).symm, rfl⟩
        | exact ⟨rfl, _, rfl, ((if_neg c_2).trans ((if_pos y2).trans (by rw [hBc]))).symm, rfl⟩
  · skip
    refine mm_aload_n dX2_accountValue_5 rfl rfl ?_
    refine mm_getI dX2_accountValue_6 fl_X2_61 rfl (by assumption) ?_
    refine mm_tope (y := s 135) hs.1.2.2.1 ?_
    refine mm_iret dX2_accountValue_9 rfl ?_
    exact ⟨rfl, _, rfl, (if_pos c_2).symm, rfl⟩
theorem c_cellE {S : mm_S} {I : mm_I} {e : Nat} {s : Nat → Int32} {k f : Int32} (hE : mm_est S e) (hs : est_at I e s) (hi : Inv s) : mm_ci mX1_cell [.ref (e + 3), .int k, .int f] S I (fun q J => q = sq_entry s k f ∧ J = I) := by
  obtain ⟨ek, ep0, ep1, ep2, ep3, ek1, ek2, ebk, ebar, elots⟩ := hE
  have h6 := hi.1.2.2.2.1
  refine (c_cell ebk (hs.2.2.1.trans h6.1) h6.2).to (fun q J h => ⟨h.1.trans ?_, h.2⟩)
  unfold w_cell sq_entry
  by_cases h1 : 0 ≤ k ∧ (0 ≤ f ∧ f ≤ 5)
  · refine (if_neg (fun q => q.elim (fun q => Int32.not_lt.mpr h1.1 q) (fun q => q h1.2))).trans (Eq.trans ?_ (if_neg (fun q => q h1)).symm)
    obtain ⟨K, hK, rfl, hKc⟩ := int_any h1.1
    obtain ⟨F, hF, rfl, hFc⟩ := int_n (n := 5) rfl (by omega) h1.2
    rw [hKc, hFc]
    by_cases h2 : K < sv s 6
    · rw [if_pos (nI_lt h2 (by omega)), if_pos h2, hs.2.2.2.1 _ (by omega)]
      exact congrArg s (by omega)
    · rw [if_neg (fun q => h2 ((nI_ltI (by omega) (by omega)).mp q)), if_neg h2]
  · refine (if_pos ?_).trans (if_pos h1).symm
    by_cases h2 : k < 0
    · exact Or.inl h2
    · exact Or.inr (fun q => h1 ⟨Int32.not_lt.mp h2, q⟩)

set_option maxRecDepth 100000 in
set_option maxHeartbeats 4000000 in
theorem c_forecastCases {S : mm_S} {I : mm_I} {e : Nat} {s : Nat → Int32} {l t : Int32} (hE : mm_est S e) (hs : est_at I e s) (hi : Inv s) : mm_ci mX2_forecastCases [.ref e, .int l, .int t] S I (fun q J => q = sq_cases s l t ∧ J = I) := by
  have hE0 := hE
  obtain ⟨ek, ep0, ep1, ep2, ep3, ek1, ek2, ebk, ebar, elots⟩ := hE
  refine mm_ci.of okX2_forecastCases rfl (Nat.le_of_ble_eq_true rfl) (lv := [(0, .ref e), (1, .int l), (2, .int t)]) rfl ?_
  refine mm_aload_n dX2_forecastCases_0 rfl rfl ?_
  refine mm_iload_n dX2_forecastCases_1 rfl rfl ?_
  refine mm_Vr (N := mX2_lotAt) (ci := 2) (as := [_]) dX2_forecastCases_2 lk_X2_83 okX2_lotAt (by decide) rfl (by decide) rfl (by assumption) rfl (by decide) (c_lotAt hE0 hs hi) (fun r1 J1 hq => ?_)
  obtain ⟨rfl, hJ⟩ := hq
  subst J1
  by_cases y1 : 0 ≤ l ∧ l < s 0
  · rw [if_pos y1]
    obtain ⟨L, hLn, hL6, rfl, hLc⟩ := inv_l hi y1
    rw [hLc]
    obtain ⟨lk, lp0, lp1, lp2, lp3, lbar, lk3, lk4, lk5⟩ := (elots L hL6).2
    have hL := (elots L hL6).2
    have hlat := hs.2.2.2.2 L hL6
    have hok := (hi.2.1 L hL6).2.1
    have bk := lbar.1
    refine mm_astore_n dX2_forecastCases_5 rfl (Nat.le_of_ble_eq_true rfl) ?_
    refine mm_aload_n dX2_forecastCases_6 rfl rfl ?_
    refine mm_ifnull dX2_forecastCases_7 ?_
    refine mm_iload_n dX2_forecastCases_10 rfl rfl ?_
    refine mm_iconst 0 dX2_forecastCases_11 rfl ?_
    refine mm_bipush 120 dX2_forecastCases_12 rfl ?_
    refine mm_SNi (N := mX7_within) (as := [_, _, _]) dX2_forecastCases_14 lk_X2_77 okX7_within (by decide) rfl rfl (by decide) c_within (fun r2 J2 hq => ?_)
    obtain ⟨rfl, hJ⟩ := hq
    subst J2
    refine mm_if_ne 23 dX2_forecastCases_17 (by decide) (fun c_17 => ?_) (fun c_17 => ?_)
    · skip
      have y2 := if_yes c_17
      obtain ⟨T, hT, rfl, hTc⟩ := int_n (n := 120) rfl (by omega) y2
      have hsp : sq_cases s (nI L) (nI T) = if sv s (13 + 20 * L) = 0 then nI (w_at s L T) else -2000000002 := by
        unfold sq_cases
        rw [if_neg (fun q => q ⟨y1, y2⟩), hLc, hTc]
      refine mm_aload_n dX2_forecastCases_23 rfl rfl ?_
      refine mm_getI dX2_forecastCases_24 fl_X2_126 rfl (by assumption) ?_
      refine mm_tope (y := s (13 + 20 * L)) hlat.2.2.1 ?_
      refine mm_if_eq 35 dX2_forecastCases_27 (by decide) (fun c_27 => ?_) (fun c_27 => ?_)
      · skip
        have y4 := (inv_open hi hL6).mp c_27
        refine mm_aload_n dX2_forecastCases_35 rfl rfl ?_
        refine mm_getR dX2_forecastCases_36 fl_X2_87 rfl (by assumption) (by assumption) ?_
        refine mm_iload_n dX2_forecastCases_39 rfl rfl ?_
        refine mm_Vi (N := mX0_casesBehind) (ci := 0) (as := [_]) dX2_forecastCases_40 lk_X2_211 okX0_casesBehind (by decide) rfl (by decide) rfl (by assumption) rfl (by decide) (c_casesBehind lbar hlat.1 hok (by omega)) (fun r2 J2 hq => ?_)
        obtain ⟨rfl, hJ⟩ := hq
        subst J2
        refine mm_iret dX2_forecastCases_43 rfl ?_
        first
          | exact ⟨rfl, _, rfl, (hsp.trans (if_neg n4)).symm, rfl⟩
          | exact ⟨rfl, _, rfl, (hsp.trans (if_pos y4)).symm, rfl⟩
      · skip
        have n4 := (lot_13 hi hL6 c_27).2
        refine mm_ldc dX2_forecastCases_30 ct_X2_98 ?_
        refine mm_goto 43 dX2_forecastCases_32 (by decide) ?_
        refine mm_iret dX2_forecastCases_43 rfl ?_
        first
          | exact ⟨rfl, _, rfl, (hsp.trans (if_neg n4)).symm, rfl⟩
          | exact ⟨rfl, _, rfl, (hsp.trans (if_pos y4)).symm, rfl⟩
    · skip
      have n2 := if_no c_17
      refine mm_ldc dX2_forecastCases_20 ct_X2_81 ?_
      refine mm_iret dX2_forecastCases_22 rfl ?_
      exact ⟨rfl, _, rfl, (if_pos (fun q => n2 q.2)).symm, rfl⟩
  · rw [if_neg y1]
    refine mm_astoreN_n dX2_forecastCases_5 rfl (Nat.le_of_ble_eq_true rfl) ?_
    refine mm_aloadN_n dX2_forecastCases_6 rfl rfl ?_
    refine mm_ifnullN 20 dX2_forecastCases_7 (by decide) ?_
    refine mm_ldc dX2_forecastCases_20 ct_X2_81 ?_
    refine mm_iret dX2_forecastCases_22 rfl ?_
    exact ⟨rfl, _, rfl, (if_pos (fun q => y1 q.1)).symm, rfl⟩
  
set_option maxRecDepth 100000 in
set_option maxHeartbeats 4000000 in
theorem c_sellableFutures {S : mm_S} {I : mm_I} {e : Nat} {s : Nat → Int32} {l : Int32} (hE : mm_est S e) (hs : est_at I e s) (hi : Inv s) : mm_ci mX2_sellableFutures [.ref e, .int l] S I (fun q J => q = sq_sellable s l ∧ J = I) := by
  have hE0 := hE
  obtain ⟨ek, ep0, ep1, ep2, ep3, ek1, ek2, ebk, ebar, elots⟩ := hE
  refine mm_ci.of okX2_sellableFutures rfl (Nat.le_of_ble_eq_true rfl) (lv := [(0, .ref e), (1, .int l)]) rfl ?_
  refine mm_aload_n dX2_sellableFutures_0 rfl rfl ?_
  refine mm_iload_n dX2_sellableFutures_1 rfl rfl ?_
  refine mm_Vr (N := mX2_lotAt) (ci := 2) (as := [_]) dX2_sellableFutures_2 lk_X2_83 okX2_lotAt (by decide) rfl (by decide) rfl (by assumption) rfl (by decide) (c_lotAt hE0 hs hi) (fun r1 J1 hq => ?_)
  obtain ⟨rfl, hJ⟩ := hq
  subst J1
  by_cases y1 : 0 ≤ l ∧ l < s 0
  · rw [if_pos y1]
    obtain ⟨L, hLn, hL6, rfl, hLc⟩ := inv_l hi y1
    rw [hLc]
    obtain ⟨lk, lp0, lp1, lp2, lp3, lbar, lk3, lk4, lk5⟩ := (elots L hL6).2
    have hL := (elots L hL6).2
    have hlat := hs.2.2.2.2 L hL6
    have hok := (hi.2.1 L hL6).2.1
    have hs300 : hsum s L ≤ 300 := (hi.2.1 L hL6).2.2.2.2.2.2.1.1
    have hx300 := sp_exp_le hi hL6
    have hsp : sq_sellable s (nI L) = if sv s (13 + 20 * L) = 0 then nI (sp_exp s L - hsum s L) else -2000000002 := by
      unfold sq_sellable
      rw [if_neg (fun q => q y1), hLc]
    refine mm_astore_n dX2_sellableFutures_5 rfl (Nat.le_of_ble_eq_true rfl) ?_
    refine mm_aload_n dX2_sellableFutures_6 rfl rfl ?_
    refine mm_ifnonnull 13 dX2_sellableFutures_7 (by decide) ?_
    refine mm_aload_n dX2_sellableFutures_13 rfl rfl ?_
    refine mm_getI dX2_sellableFutures_14 fl_X2_126 rfl (by assumption) ?_
    refine mm_tope (y := s (13 + 20 * L)) hlat.2.2.1 ?_
    refine mm_if_eq 25 dX2_sellableFutures_17 (by decide) (fun c_17 => ?_) (fun c_17 => ?_)
    · skip
      have y4 := (inv_open hi hL6).mp c_17
      refine mm_iconst 0 dX2_sellableFutures_25 rfl ?_
      refine mm_aload_n dX2_sellableFutures_26 rfl rfl ?_
      refine mm_aload_n dX2_sellableFutures_27 rfl rfl ?_
      refine mm_Vi (N := mX2_expectedCases) (ci := 2) (as := [_]) dX2_sellableFutures_28 lk_X2_159 okX2_expectedCases (by decide) rfl (by decide) rfl (by assumption) rfl (by first | decide | (simp [Value.category])) (c_expectedCases hL6 hE0 hs hi) (fun r2 J2 hq => ?_)
      obtain ⟨rfl, hJ⟩ := hq
      subst J2
      refine mm_aload_n dX2_sellableFutures_31 rfl rfl ?_
      refine mm_Vi (N := mX4_allHeld) (ci := 4) (as := []) dX2_sellableFutures_32 lk_X2_133 okX4_allHeld (by decide) rfl (by decide) rfl (by assumption) rfl (by first | decide | (simp [Value.category])) (c_allHeldE hL6 hE0 hs hi) (fun r2 J2 hq => ?_)
      obtain ⟨rfl, hJ⟩ := hq
      subst J2
      refine mm_isub dX2_sellableFutures_35 ?_
      refine mm_max dX2_sellableFutures_36 lk_X2_214 max_st ini_Math max_code (by decide) (by decide) (Nat.zero_le _) (Nat.zero_le _) ?_
      refine mm_tope (y := nI (sp_exp s L - hsum s L)) (max_sub (by omega) (by omega)) ?_
      refine mm_iret dX2_sellableFutures_39 rfl ?_
      first
        | exact ⟨rfl, _, rfl, (hsp.trans (if_neg n4)).symm, rfl⟩
        | exact ⟨rfl, _, rfl, (hsp.trans (if_pos y4)).symm, rfl⟩
    · skip
      have n4 := (lot_13 hi hL6 c_17).2
      refine mm_ldc dX2_sellableFutures_20 ct_X2_98 ?_
      refine mm_goto 39 dX2_sellableFutures_22 (by decide) ?_
      refine mm_iret dX2_sellableFutures_39 rfl ?_
      first
        | exact ⟨rfl, _, rfl, (hsp.trans (if_neg n4)).symm, rfl⟩
        | exact ⟨rfl, _, rfl, (hsp.trans (if_pos y4)).symm, rfl⟩
  · rw [if_neg y1]
    refine mm_astoreN_n dX2_sellableFutures_5 rfl (Nat.le_of_ble_eq_true rfl) ?_
    refine mm_aloadN_n dX2_sellableFutures_6 rfl rfl ?_
    refine mm_ifnonnullN dX2_sellableFutures_7 ?_
    refine mm_ldc dX2_sellableFutures_10 ct_X2_81 ?_
    refine mm_iret dX2_sellableFutures_12 rfl ?_
    exact ⟨rfl, _, rfl, (if_pos y1).symm, rfl⟩
  
set_option maxRecDepth 100000 in
set_option maxHeartbeats 4000000 in
theorem c_totalOfLots {S : mm_S} {I : mm_I} {e : Nat} {s : Nat → Int32} {F : Nat} {g : Nat → Nat} (hF9 : F ≤ 9) (hg : ∀ l, l < 6 → sq_lotF s l F = nI (g l)) (hE : mm_est S e) (hs : est_at I e s) (hi : Inv s) : mm_ci mX2_totalOfLots [.ref e, .int (nI F)] S I (fun q J => q = nI (ws_sum g (sv s 0)) ∧ J = I) := by
  have hE0 := hE
  obtain ⟨ek, ep0, ep1, ep2, ep3, ek1, ek2, ebk, ebar, elots⟩ := hE
  have hn6 := hi.1.1.2
  have g4 : I e 4 = nI (sv s 0) := hs.1.1.trans hi.1.1.1
  have hv : ∀ i, i < sv s 0 → sq_lotOf s (nI i) (nI F) = nI (g i) := fun i h => by
    unfold sq_lotOf
    rw [if_neg (fun q => q ⟨⟨nI_pos' (by omega), by rw [hi.1.1.1]; exact nI_lt h (by omega)⟩, nI_pos' (by omega), nI_le (b := 9) hF9 (by omega)⟩), nI_clamp (by omega), nI_clamp (by omega)]
    exact hg i (by omega)
  refine mm_ci.of okX2_totalOfLots rfl (Nat.le_of_ble_eq_true rfl) (lv := [(0, .ref e), (1, .int (nI F))]) rfl ?_
  have loop : ∀ (t i : Nat), i + t = sv s 0 → mm_Gi mX2_totalOfLots (fun q J => q = nI (ws_sum g (sv s 0)) ∧ J = I) 4 [(3, .int (nI i)), (2, .int (nI (ws_sum g i))), (0, .ref e), (1, .int (nI F))] [] S S I := by
    intro t
    induction t with
    | zero =>
      intro i hit
      refine mm_iload_n dX2_totalOfLots_4 rfl rfl ?_
      refine mm_aload_n dX2_totalOfLots_5 rfl rfl ?_
      refine mm_getI dX2_totalOfLots_6 fl_X2_55 rfl (by assumption) ?_
      refine mm_tope (y := nI (sv s 0)) g4 ?_
      refine mm_icmp_ge 27 dX2_totalOfLots_9 (by decide) (fun c_9 => ?_) (fun c_9 => absurd (nI_le (by omega) (by omega)) c_9)
      refine mm_iload_n dX2_totalOfLots_27 rfl rfl ?_
      refine mm_iret dX2_totalOfLots_28 rfl ?_
      have hiN : i = sv s 0 := by omega
      subst hiN
      exact ⟨rfl, _, rfl, rfl, rfl⟩
    | succ t ih =>
      intro i hit
      refine mm_iload_n dX2_totalOfLots_4 rfl rfl ?_
      refine mm_aload_n dX2_totalOfLots_5 rfl rfl ?_
      refine mm_getI dX2_totalOfLots_6 fl_X2_55 rfl (by assumption) ?_
      refine mm_tope (y := nI (sv s 0)) g4 ?_
      refine mm_icmp_ge 27 dX2_totalOfLots_9 (by decide) (fun c_9 => absurd c_9 (nI_ge (by omega) (by omega))) (fun c_9 => ?_)
      refine mm_iload_n dX2_totalOfLots_12 rfl rfl ?_
      refine mm_aload_n dX2_totalOfLots_13 rfl rfl ?_
      refine mm_iload_n dX2_totalOfLots_14 rfl rfl ?_
      refine mm_iload_n dX2_totalOfLots_15 rfl rfl ?_
      refine mm_Vi (N := mX2_lotValue) (ci := 2) (as := [_, _]) dX2_totalOfLots_16 lk_X2_208 okX2_lotValue (by decide) rfl (by decide) rfl (by assumption) rfl (by first | decide | (simp [Value.category])) (c_lotValue hE0 hs hi) (fun r1 J1 hq => ?_)
      obtain ⟨rfl, hJ⟩ := hq
      subst J1
      rw [hv i (by omega)]
      refine mm_iadd dX2_totalOfLots_19 ?_
      refine mm_tope (y := nI (ws_sum g (i + 1))) (nI_add _ _) ?_
      refine mm_istore_n dX2_totalOfLots_20 rfl (Nat.le_of_ble_eq_true rfl) ?_
      refine mm_iinc 1 dX2_totalOfLots_21 rfl rfl (Nat.le_of_ble_eq_true rfl) ?_
      rw [nI_1]
      refine mm_goto 4 dX2_totalOfLots_24 (by decide) ?_
      exact mm_G.at (ih (i + 1) (by omega)) (mm_s1 rfl (mm_s1 rfl (mm_s1 rfl (mm_s1 rfl mm_s0))))
  refine mm_iconst 0 dX2_totalOfLots_0 rfl ?_
  refine mm_istore_n dX2_totalOfLots_1 rfl (Nat.le_of_ble_eq_true rfl) ?_
  refine mm_iconst 0 dX2_totalOfLots_2 rfl ?_
  refine mm_istore_n dX2_totalOfLots_3 rfl (Nat.le_of_ble_eq_true rfl) ?_
  exact mm_G.at (loop (sv s 0) 0 (by omega)) (mm_s1 rfl (mm_s1 rfl (mm_s1 rfl (mm_s1 rfl mm_s0))))
set_option maxRecDepth 100000 in
set_option maxHeartbeats 4000000 in
theorem c_number {S : mm_S} {I : mm_I} {e : Nat} {s : Nat → Int32} {p t f : Int32} (f10 : f ≠ nI 10) (f11 : f ≠ nI 11) (hE : mm_est S e) (hs : est_at I e s) (hi : Inv s) : mm_ci mX2_number [.ref e, .int f] S I (fun q J => q = sq_count s p t f ∧ J = I) := by
  have hE0 := hE
  obtain ⟨ek, ep0, ep1, ep2, ep3, ek1, ek2, ebk, ebar, elots⟩ := hE
  have hn6 := hi.1.1.2
  have hbk : (S.2.1 (e + 3)).1 = 1 := ebk.1
  obtain ⟨a4, a5, a6, a7, a8, a9, a10, a11⟩ := hs.1
  have hm : is_sum (I (e + 2)) 6 = is_sum (fun k => s (129 + k)) 6 := is_sum_cg 6 (fun k hk => hs.2.1 k hk)
  have h4 : s 4 = nI (ws_sum (gsum s) (sv s 0)) := by
    rw [hi.2.2.2.2, ws_sum_0 (n := sv s 0) 6 hn6 (fun l h1 h2 => (hi.2.2.1 l h2 h1).1 7 (by omega) |> fun q => by rw [show 9 + 20 * l + 7 = 16 + 20 * l by omega] at q; exact q), ws_sum_congr (w := gsum s) _ (fun l hl => (hi.2.1 l (by omega)).2.2.2.2.2.1.2.2)]
  refine mm_ci.of okX2_number rfl (Nat.le_of_ble_eq_true rfl) (lv := [(0, .ref e), (1, .int f)]) rfl ?_
  refine mm_iload_n dX2_number_0 rfl rfl ?_
  by_cases hf : 0 ≤ f ∧ f ≤ 21
  · obtain ⟨F, hF21, rfl, hFc⟩ := int_n (n := 21) rfl (by omega) hf
    clear hf hFc
    rcases F with _ | F
    · skip
      have hsp : sq_count s p t (nI 0) = sq_cntF s p t 0 := cnt_in (by decide)
      refine mm_tableIn 104 dX2_number_1 (by decide) (by decide) rfl (by decide) ?_
      refine mm_aload_n dX2_number_104 rfl rfl ?_
      refine mm_getI dX2_number_105 fl_X2_55 rfl (by assumption) ?_
      refine mm_tope (y := s 0) a4 ?_
      refine mm_iret dX2_number_108 rfl ?_
      exact ⟨rfl, _, rfl, (hsp).symm, rfl⟩
    · rcases F with _ | F
      · skip
        have hsp : sq_count s p t (nI 1) = sq_cntF s p t 1 := cnt_in (by decide)
        refine mm_tableIn 109 dX2_number_1 (by decide) (by decide) rfl (by decide) ?_
        refine mm_aload_n dX2_number_109 rfl rfl ?_
        refine mm_getI dX2_number_110 fl_X2_58 rfl (by assumption) ?_
        refine mm_tope (y := s 1) a5 ?_
        refine mm_iret dX2_number_113 rfl ?_
        exact ⟨rfl, _, rfl, (hsp).symm, rfl⟩
      · rcases F with _ | F
        · skip
          have hsp : sq_count s p t (nI 2) = sq_cntF s p t 2 := cnt_in (by decide)
          refine mm_tableIn 114 dX2_number_1 (by decide) (by decide) rfl (by decide) ?_
          refine mm_aload_n dX2_number_114 rfl rfl ?_
          refine mm_getI dX2_number_115 fl_X2_64 rfl (by assumption) ?_
          refine mm_tope (y := s 2) a9 ?_
          refine mm_iret dX2_number_118 rfl ?_
          exact ⟨rfl, _, rfl, (hsp).symm, rfl⟩
        · rcases F with _ | F
          · skip
            have hsp : sq_count s p t (nI 3) = sq_cntF s p t 3 := cnt_in (by decide)
            refine mm_tableIn 119 dX2_number_1 (by decide) (by decide) rfl (by decide) ?_
            refine mm_aload_n dX2_number_119 rfl rfl ?_
            refine mm_getI dX2_number_120 fl_X2_61 rfl (by assumption) ?_
            refine mm_tope (y := s 135) a6 ?_
            refine mm_aload_n dX2_number_123 rfl rfl ?_
            refine mm_getR dX2_number_124 fl_X2_17 rfl (by assumption) (by assumption) ?_
            refine mm_SNi (N := mX7_sum) (as := [_]) dX2_number_127 lk_X2_182 okX7_sum (by decide) rfl rfl (by first | decide | (simp [Value.category])) (c_sum ek2 (by omega)) (fun r1 J1 hq => ?_)
            obtain ⟨rfl, hJ⟩ := hq
            subst J1
            rw [hm]
            refine mm_iadd dX2_number_130 ?_
            refine mm_tope (y := is_sum (fun k => s (129 + k)) 7) (Int32.add_comm _ _) ?_
            refine mm_iret dX2_number_131 rfl ?_
            exact ⟨rfl, _, rfl, (hsp).symm, rfl⟩
          · rcases F with _ | F
            · skip
              have hsp : sq_count s p t (nI 4) = sq_cntF s p t 4 := cnt_in (by decide)
              refine mm_tableIn 132 dX2_number_1 (by decide) (by decide) rfl (by decide) ?_
              refine mm_aload_n dX2_number_132 rfl rfl ?_
              refine mm_iconst 2 dX2_number_133 rfl ?_
              refine mm_Vi (N := mX2_totalOfLots) (ci := 2) (as := [_]) dX2_number_134 lk_X2_202 okX2_totalOfLots (by decide) rfl (by decide) rfl (by assumption) rfl (by decide) (c_totalOfLots (g := fun l => ws_sum (sw s l) (sv s (9 + 20 * l))) (by decide) (F := 2) (fun l hl => rfl) hE0 hs hi) (fun r1 J1 hq => ?_)
              obtain ⟨rfl, hJ⟩ := hq
              subst J1
              refine mm_iret dX2_number_137 rfl ?_
              exact ⟨rfl, _, rfl, (hsp).symm, rfl⟩
            · rcases F with _ | F
              · skip
                have hsp : sq_count s p t (nI 5) = sq_cntF s p t 5 := cnt_in (by decide)
                refine mm_tableIn 138 dX2_number_1 (by decide) (by decide) rfl (by decide) ?_
                refine mm_aload_n dX2_number_138 rfl rfl ?_
                refine mm_getI dX2_number_139 fl_X2_67 rfl (by assumption) ?_
                refine mm_tope (y := s 3) a10 ?_
                refine mm_iret dX2_number_142 rfl ?_
                exact ⟨rfl, _, rfl, (hsp).symm, rfl⟩
              · rcases F with _ | F
                · skip
                  have hsp : sq_count s p t (nI 6) = sq_cntF s p t 6 := cnt_in (by decide)
                  refine mm_tableIn 143 dX2_number_1 (by decide) (by decide) rfl (by decide) ?_
                  refine mm_aload_n dX2_number_143 rfl rfl ?_
                  refine mm_iconst 5 dX2_number_144 rfl ?_
                  refine mm_Vi (N := mX2_totalOfLots) (ci := 2) (as := [_]) dX2_number_145 lk_X2_202 okX2_totalOfLots (by decide) rfl (by decide) rfl (by assumption) rfl (by decide) (c_totalOfLots (g := hsum s) (by decide) (F := 5) (fun l hl => rfl) hE0 hs hi) (fun r1 J1 hq => ?_)
                  obtain ⟨rfl, hJ⟩ := hq
                  subst J1
                  refine mm_iret dX2_number_148 rfl ?_
                  exact ⟨rfl, _, rfl, (hsp).symm, rfl⟩
                · rcases F with _ | F
                  · skip
                    have hsp : sq_count s p t (nI 7) = sq_cntF s p t 7 := cnt_in (by decide)
                    refine mm_tableIn 149 dX2_number_1 (by decide) (by decide) rfl (by decide) ?_
                    refine mm_aload_n dX2_number_149 rfl rfl ?_
                    refine mm_bipush 9 dX2_number_150 rfl ?_
                    refine mm_Vi (N := mX2_totalOfLots) (ci := 2) (as := [_]) dX2_number_152 lk_X2_202 okX2_totalOfLots (by decide) rfl (by decide) rfl (by assumption) rfl (by decide) (c_totalOfLots (g := gsum s) (by decide) (F := 9) (fun l hl => lot_16 hi hl) hE0 hs hi) (fun r1 J1 hq => ?_)
                    obtain ⟨rfl, hJ⟩ := hq
                    subst J1
                    rw [← h4]
                    refine mm_iret dX2_number_155 rfl ?_
                    exact ⟨rfl, _, rfl, (hsp).symm, rfl⟩
                  · rcases F with _ | F
                    · skip
                      have hsp : sq_count s p t (nI 8) = sq_cntF s p t 8 := cnt_in (by decide)
                      refine mm_tableIn 156 dX2_number_1 (by decide) (by decide) rfl (by decide) ?_
                      refine mm_aload_n dX2_number_156 rfl rfl ?_
                      refine mm_getI dX2_number_157 fl_X2_70 rfl (by assumption) ?_
                      refine mm_tope (y := s 5) a11 ?_
                      refine mm_iret dX2_number_160 rfl ?_
                      exact ⟨rfl, _, rfl, (hsp).symm, rfl⟩
                    · rcases F with _ | F
                      · skip
                        have hsp : sq_count s p t (nI 9) = sq_cntF s p t 9 := cnt_in (by decide)
                        refine mm_tableIn 161 dX2_number_1 (by decide) (by decide) rfl (by decide) ?_
                        refine mm_aload_n dX2_number_161 rfl rfl ?_
                        refine mm_getR dX2_number_162 fl_X2_24 rfl (by assumption) (by assumption) ?_
                        refine mm_getI dX2_number_165 fl_X2_205 rfl (by assumption) ?_
                        refine mm_tope (y := s 6) hs.2.2.1 ?_
                        refine mm_iret dX2_number_168 rfl ?_
                        exact ⟨rfl, _, rfl, (hsp).symm, rfl⟩
                      · rcases F with _ | F
                        · skip
                          exact absurd rfl f10
                        · rcases F with _ | F
                          · skip
                            exact absurd rfl f11
                          · rcases F with _ | F
                            · skip
                              have hsp : sq_count s p t (nI 12) = -2000000001 := cnt_mid (by decide) (by decide)
                              refine mm_tableIn 179 dX2_number_1 (by decide) (by decide) rfl (by decide) ?_
                              refine mm_ldc dX2_number_179 ct_X2_81 ?_
                              refine mm_iret dX2_number_181 rfl ?_
                              exact ⟨rfl, _, rfl, (hsp).symm, rfl⟩
                            · rcases F with _ | F
                              · skip
                                have hsp : sq_count s p t (nI 13) = -2000000001 := cnt_mid (by decide) (by decide)
                                refine mm_tableIn 179 dX2_number_1 (by decide) (by decide) rfl (by decide) ?_
                                refine mm_ldc dX2_number_179 ct_X2_81 ?_
                                refine mm_iret dX2_number_181 rfl ?_
                                exact ⟨rfl, _, rfl, (hsp).symm, rfl⟩
                              · rcases F with _ | F
                                · skip
                                  have hsp : sq_count s p t (nI 14) = -2000000001 := cnt_mid (by decide) (by decide)
                                  refine mm_tableIn 179 dX2_number_1 (by decide) (by decide) rfl (by decide) ?_
                                  refine mm_ldc dX2_number_179 ct_X2_81 ?_
                                  refine mm_iret dX2_number_181 rfl ?_
                                  exact ⟨rfl, _, rfl, (hsp).symm, rfl⟩
                                · rcases F with _ | F
                                  · skip
                                    have hsp : sq_count s p t (nI 15) = -2000000001 := cnt_mid (by decide) (by decide)
                                    refine mm_tableIn 179 dX2_number_1 (by decide) (by decide) rfl (by decide) ?_
                                    refine mm_ldc dX2_number_179 ct_X2_81 ?_
                                    refine mm_iret dX2_number_181 rfl ?_
                                    exact ⟨rfl, _, rfl, (hsp).symm, rfl⟩
                                  · rcases F with _ | F
                                    · skip
                                      have hsp : sq_count s p t (nI 16) = -2000000001 := cnt_mid (by decide) (by decide)
                                      refine mm_tableIn 179 dX2_number_1 (by decide) (by decide) rfl (by decide) ?_
                                      refine mm_ldc dX2_number_179 ct_X2_81 ?_
                                      refine mm_iret dX2_number_181 rfl ?_
                                      exact ⟨rfl, _, rfl, (hsp).symm, rfl⟩
                                    · rcases F with _ | F
                                      · skip
                                        have hsp : sq_count s p t (nI 17) = -2000000001 := cnt_mid (by decide) (by decide)
                                        refine mm_tableIn 179 dX2_number_1 (by decide) (by decide) rfl (by decide) ?_
                                        refine mm_ldc dX2_number_179 ct_X2_81 ?_
                                        refine mm_iret dX2_number_181 rfl ?_
                                        exact ⟨rfl, _, rfl, (hsp).symm, rfl⟩
                                      · rcases F with _ | F
                                        · skip
                                          have hsp : sq_count s p t (nI 18) = -2000000001 := cnt_mid (by decide) (by decide)
                                          refine mm_tableIn 179 dX2_number_1 (by decide) (by decide) rfl (by decide) ?_
                                          refine mm_ldc dX2_number_179 ct_X2_81 ?_
                                          refine mm_iret dX2_number_181 rfl ?_
                                          exact ⟨rfl, _, rfl, (hsp).symm, rfl⟩
                                        · rcases F with _ | F
                                          · skip
                                            have hsp : sq_count s p t (nI 19) = -2000000001 := cnt_mid (by decide) (by decide)
                                            refine mm_tableIn 179 dX2_number_1 (by decide) (by decide) rfl (by decide) ?_
                                            refine mm_ldc dX2_number_179 ct_X2_81 ?_
                                            refine mm_iret dX2_number_181 rfl ?_
                                            exact ⟨rfl, _, rfl, (hsp).symm, rfl⟩
                                          · rcases F with _ | F
                                            · skip
                                              have hsp : sq_count s p t (nI 20) = s 7 := cnt_hi (by decide) (by decide)
                                              refine mm_tableIn 169 dX2_number_1 (by decide) (by decide) rfl (by decide) ?_
                                              refine mm_aload_n dX2_number_169 rfl rfl ?_
                                              refine mm_getI dX2_number_170 fl_X2_35 rfl (by assumption) ?_
                                              refine mm_tope (y := s 7) a7 ?_
                                              refine mm_iret dX2_number_173 rfl ?_
                                              exact ⟨rfl, _, rfl, (hsp).symm, rfl⟩
                                            · rcases F with _ | F
                                              · skip
                                                have hsp : sq_count s p t (nI 21) = s 8 := cnt_hi (by decide) (by decide)
                                                refine mm_tableIn 174 dX2_number_1 (by decide) (by decide) rfl (by decide) ?_
                                                refine mm_aload_n dX2_number_174 rfl rfl ?_
                                                refine mm_getI dX2_number_175 fl_X2_39 rfl (by assumption) ?_
                                                refine mm_tope (y := s 8) a8 ?_
                                                refine mm_iret dX2_number_178 rfl ?_
                                                exact ⟨rfl, _, rfl, (hsp).symm, rfl⟩
                                              · omega
  · have hout : f.toInt < 0 ∨ 21 < f.toInt := int_out hf
    refine mm_tableOut 179 dX2_number_1 hout (by decide) ?_
    have hsp : sq_count s p t f = -2000000001 := cnt_out hf
    refine mm_ldc dX2_number_179 ct_X2_81 ?_
    refine mm_iret dX2_number_181 rfl ?_
    exact ⟨rfl, _, rfl, (hsp).symm, rfl⟩
