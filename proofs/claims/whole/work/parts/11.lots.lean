/-! LOTS AND BOOKS -/
def mm_lot (S : mm_S) (a : Nat) : Prop := (S.2.1 a).1 = 4 ∧ S.2.2 a 0 = some (a + 1) ∧ S.2.2 a 1 = some (a + 3) ∧ S.2.2 a 2 = some (a + 4) ∧ S.2.2 a 3 = some (a + 5) ∧ mm_bar S (a + 1) ∧ S.2.1 (a + 3) = (9, 6) ∧ S.2.1 (a + 4) = (9, 6) ∧ S.2.1 (a + 5) = (9, 6)
def w_quote (sc t : Nat) : Nat := 10 + sc / t * (sc / t) / 100
def w_cut (h c al : Nat) : Nat := if al ≤ c then 0 else h - h * c / al
theorem nI_addneg {a b : Nat} (h : b ≤ a) : nI a + -nI b = nI (a - b) := by
  rw [← Int32.sub_eq_add_neg]
  exact pk_sub h
theorem w_share_le {p k h : Nat} (hk : k ≤ h) : p * k / h ≤ p := by
  rcases Nat.eq_zero_or_pos h with e | e
  · subst e; rw [Nat.div_zero]; exact Nat.zero_le _
  · exact Nat.div_le_of_le_mul (by rw [Nat.mul_comm h p]; exact Nat.mul_le_mul_left p hk)
def mm_bk (S : mm_S) (a : Nat) : Prop := (S.2.1 a).1 = 1 ∧ S.2.2 a 0 = some (a + 1) ∧ S.2.1 (a + 1) = (9, 72)
/-- what a book's cell answers: e entries, f the cells -/
def w_cell (e : Int32) (f : Nat → Int32) (i w : Int32) : Int32 := if i < 0 ∨ ¬ (0 ≤ w ∧ w ≤ 5) then -2000000001 else if i < e then f (6 * i.toNatClampNeg + w.toNatClampNeg) else -2000000004
def w_six (k l b c m f : Int32) (j : Nat) : Int32 := match j with
  | 0 => k | 1 => l | 2 => b | 3 => c | 4 => m | _ => f
def w_book (g : Nat → Int32) (k l b c m f : Int32) (j : Nat) : Int32 := if j < 6 then w_six k l b c m f j else g (j - 6)

set_option maxRecDepth 100000 in
set_option maxHeartbeats 4000000 in
theorem c_quote {S : mm_S} {I : mm_I} {a sc t : Nat} (hL : mm_lot S a) (h6 : I a 6 = nI sc) (h7 : I a 7 = nI t) (hs : sc ≤ 100 * t) (ht : t < 10000) : mm_ci mX4_quote [.ref a] S I (fun q J => q = nI (w_quote sc t) ∧ J = I) := by
  obtain ⟨hk, hp0, hp1, hp2, hp3, hB, hk3, hk4, hk5⟩ := hL
  have hm : sc / t ≤ 100 := by
    rcases Nat.eq_zero_or_pos t with e | e
    · subst e; rw [Nat.div_zero]; exact Nat.zero_le _
    · exact Nat.div_le_of_le_mul (by rw [Nat.mul_comm]; exact hs)
  have hmm : sc / t * (sc / t) ≤ 100 * 100 := Nat.mul_le_mul hm hm
  refine mm_ci.of okX4_quote rfl (Nat.le_of_ble_eq_true rfl) (lv := [(0, .ref a)]) rfl ?_
  refine mm_aload_n dX4_quote_0 rfl rfl ?_
  refine mm_getI dX4_quote_1 fl_X4_47 rfl (by assumption) ?_
  refine mm_tope (y := nI t) h7 ?_
  refine mm_if_gt 10 dX4_quote_4 (by decide) (fun c_4 => ?_) (fun c_4 => ?_)
  · skip
    have ht0 : 0 < t := by
      rcases Nat.eq_zero_or_pos t with e | e
      · subst e; exact absurd c_4 (by decide)
      · exact e
    have hne : ¬ nI t = 0 := nI_ne0 ht0 (by omega)
    refine mm_aload_n dX4_quote_10 rfl rfl ?_
    refine mm_getI dX4_quote_11 fl_X4_44 rfl (by assumption) ?_
    refine mm_tope (y := nI sc) h6 ?_
    refine mm_aload_n dX4_quote_14 rfl rfl ?_
    refine mm_getI dX4_quote_15 fl_X4_47 rfl (by assumption) ?_
    refine mm_tope (y := nI t) h7 ?_
    refine mm_idiv dX4_quote_18 (by assumption) ?_
    refine mm_tope (y := nI (sc / t)) (pk_div (by omega) ht0 (by omega)) ?_
    refine mm_istore_n dX4_quote_19 rfl (Nat.le_of_ble_eq_true rfl) ?_
    refine mm_bipush 10 dX4_quote_20 rfl ?_
    refine mm_iload_n dX4_quote_22 rfl rfl ?_
    refine mm_iload_n dX4_quote_23 rfl rfl ?_
    refine mm_imul dX4_quote_24 ?_
    refine mm_tope (y := nI (sc / t * (sc / t))) (pk_mul _ _) ?_
    refine mm_bipush 100 dX4_quote_25 rfl ?_
    refine mm_idiv dX4_quote_27 (by decide) ?_
    refine mm_tope (y := nI (sc / t * (sc / t) / 100)) (pk_div (d := 100) (by omega) (by omega) (by omega)) ?_
    refine mm_iadd dX4_quote_28 ?_
    refine mm_tope (y := nI (w_quote sc t)) (nI_add 10 _) ?_
    refine mm_iret dX4_quote_29 rfl ?_
    exact ⟨rfl, _, rfl, rfl, rfl⟩
  · skip
    have ht0 : t = 0 := by
      rcases Nat.eq_zero_or_pos t with e | e
      · exact e
      · exact absurd (nI_lt e (by omega)) c_4
    refine mm_bipush 10 dX4_quote_7 rfl ?_
    refine mm_iret dX4_quote_9 rfl ?_
    exact ⟨rfl, _, rfl, by rw [ht0]; unfold w_quote; rw [Nat.div_zero]; rfl, rfl⟩
set_option maxRecDepth 100000 in
set_option maxHeartbeats 4000000 in
theorem c_allHeld {S : mm_S} {I : mm_I} {a : Nat} (hL : mm_lot S a) : mm_ci mX4_allHeld [.ref a] S I (fun q J => q = is_sum (I (a + 3)) 6 ∧ J = I) := by
  obtain ⟨hk, hp0, hp1, hp2, hp3, hB, hk3, hk4, hk5⟩ := hL
  refine mm_ci.of okX4_allHeld rfl (Nat.le_of_ble_eq_true rfl) (lv := [(0, .ref a)]) rfl ?_
  refine mm_aload_n dX4_allHeld_0 rfl rfl ?_
  refine mm_getR dX4_allHeld_1 fl_X4_18 rfl (by assumption) (by assumption) ?_
  refine mm_SNi (N := mX7_sum) (as := [_]) dX4_allHeld_4 lk_X4_50 okX7_sum (by decide) rfl rfl (by decide) (c_sum hk3 (by omega)) (fun r1 J1 hq => ?_)
  obtain ⟨rfl, hJ⟩ := hq
  subst J1
  refine mm_iret dX4_allHeld_7 rfl ?_
  exact ⟨rfl, _, rfl, rfl, rfl⟩
set_option maxRecDepth 100000 in
set_option maxHeartbeats 4000000 in
theorem c_allDelivered {S : mm_S} {I : mm_I} {a : Nat} (hL : mm_lot S a) : mm_ci mX4_allDelivered [.ref a] S I (fun q J => q = is_sum (I (a + 5)) 6 ∧ J = I) := by
  obtain ⟨hk, hp0, hp1, hp2, hp3, hB, hk3, hk4, hk5⟩ := hL
  refine mm_ci.of okX4_allDelivered rfl (Nat.le_of_ble_eq_true rfl) (lv := [(0, .ref a)]) rfl ?_
  refine mm_aload_n dX4_allDelivered_0 rfl rfl ?_
  refine mm_getR dX4_allDelivered_1 fl_X4_25 rfl (by assumption) (by assumption) ?_
  refine mm_SNi (N := mX7_sum) (as := [_]) dX4_allDelivered_4 lk_X4_50 okX7_sum (by decide) rfl rfl (by decide) (c_sum hk5 (by omega)) (fun r1 J1 hq => ?_)
  obtain ⟨rfl, hJ⟩ := hq
  subst J1
  refine mm_iret dX4_allDelivered_7 rfl ?_
  exact ⟨rfl, _, rfl, rfl, rfl⟩
set_option maxRecDepth 100000 in
set_option maxHeartbeats 4000000 in
theorem c_casesNow_b {S : mm_S} {I : mm_I} {a : Nat} (hL : mm_lot S a) (h4 : I a 4 = 1) : mm_ci mX4_casesNow [.ref a] S I (fun q J => q = I a 5 - is_sum (I (a + 5)) 6 ∧ J = I) := by
  have hL0 := hL
  obtain ⟨hk, hp0, hp1, hp2, hp3, hB, hk3, hk4, hk5⟩ := hL
  refine mm_ci.of okX4_casesNow rfl (Nat.le_of_ble_eq_true rfl) (lv := [(0, .ref a)]) rfl ?_
  refine mm_aload_n dX4_casesNow_0 rfl rfl ?_
  refine mm_getI dX4_casesNow_1 fl_X4_36 rfl (by assumption) ?_
  refine mm_tope (y := 1) h4 ?_
  refine mm_if_eq 19 dX4_casesNow_4 (by decide) (fun c_4 => absurd c_4 (by decide)) (fun c_4 => ?_)
  refine mm_aload_n dX4_casesNow_7 rfl rfl ?_
  refine mm_getI dX4_casesNow_8 fl_X4_40 rfl (by assumption) ?_
  refine mm_aload_n dX4_casesNow_11 rfl rfl ?_
  refine mm_Vi (N := mX4_allDelivered) (ci := 4) (as := []) dX4_casesNow_12 lk_X4_54 okX4_allDelivered (by decide) rfl (by decide) rfl (by assumption) rfl (by first | decide | (simp [Value.category])) (c_allDelivered hL0) (fun r1 J1 hq => ?_)
  obtain ⟨rfl, hJ⟩ := hq
  subst J1
  refine mm_isub dX4_casesNow_15 ?_
  refine mm_goto 27 dX4_casesNow_16 (by decide) ?_
  refine mm_iret dX4_casesNow_27 rfl ?_
  exact ⟨rfl, _, rfl, rfl, rfl⟩
set_option maxRecDepth 100000 in
set_option maxHeartbeats 4000000 in
theorem c_casesNow_o {S : mm_S} {I : mm_I} {a n r : Nat} {w : Nat → Nat} (hL : mm_lot S a) (h4 : I a 4 = 0) (hv : wv_at I (a + 1) n r w) (ho : wv_ok n r w) : mm_ci mX4_casesNow [.ref a] S I (fun q J => q = nI (ws_sum w n / 90) ∧ J = I) := by
  obtain ⟨hk, hp0, hp1, hp2, hp3, hB, hk3, hk4, hk5⟩ := hL
  obtain ⟨hk', hp', hkw⟩ := id hB
  refine mm_ci.of okX4_casesNow rfl (Nat.le_of_ble_eq_true rfl) (lv := [(0, .ref a)]) rfl ?_
  refine mm_aload_n dX4_casesNow_0 rfl rfl ?_
  refine mm_getI dX4_casesNow_1 fl_X4_36 rfl (by assumption) ?_
  refine mm_tope (y := 0) h4 ?_
  refine mm_if_eq 19 dX4_casesNow_4 (by decide) (fun c_4 => ?_) (fun c_4 => absurd rfl c_4)
  refine mm_aload_n dX4_casesNow_19 rfl rfl ?_
  refine mm_getR dX4_casesNow_20 fl_X4_12 rfl (by assumption) (by assumption) ?_
  refine mm_iconst 0 dX4_casesNow_23 rfl ?_
  refine mm_Vi (N := mX0_casesBehind) (ci := 0) (as := [_]) dX4_casesNow_24 lk_X4_58 okX0_casesBehind (by decide) rfl (by decide) rfl (by assumption) rfl (by decide) (c_casesBehind (m := 0) hB hv ho (by omega)) (fun r1 J1 hq => ?_)
  obtain ⟨rfl, hJ⟩ := hq
  subst J1
  refine mm_iret dX4_casesNow_27 rfl ?_
  exact ⟨rfl, _, rfl, rfl, rfl⟩
set_option maxRecDepth 100000 in
set_option maxHeartbeats 4000000 in
theorem c_heldBy {S : mm_S} {I : mm_I} {a b : Nat} (hL : mm_lot S a) (hb : b < 6) : mm_ci mX4_heldBy [.ref a, .int (nI b)] S I (fun q J => q = I (a + 3) b ∧ J = I) := by
  obtain ⟨hk, hp0, hp1, hp2, hp3, hB, hk3, hk4, hk5⟩ := hL
  refine mm_ci.of okX4_heldBy rfl (Nat.le_of_ble_eq_true rfl) (lv := [(0, .ref a), (1, .int (nI b))]) rfl ?_
  refine mm_iload_n dX4_heldBy_0 rfl rfl ?_
  refine mm_if_lt 22 dX4_heldBy_1 (by decide) (fun c_1 => absurd c_1 (nI_pos (by omega))) (fun c_1 => ?_)
  refine mm_iload_n dX4_heldBy_4 rfl rfl ?_
  refine mm_aload_n dX4_heldBy_5 rfl rfl ?_
  refine mm_getR dX4_heldBy_6 fl_X4_18 rfl (by assumption) (by assumption) ?_
  refine mm_alen (t := 0) dX4_heldBy_9 (by assumption) (by decide) 6 rfl ?_
  refine mm_icmp_ge 22 dX4_heldBy_10 (by decide) (fun c_10 => absurd c_10 (nI_ge (b := 6) (by omega) (by omega))) (fun c_10 => ?_)
  refine mm_aload_n dX4_heldBy_13 rfl rfl ?_
  refine mm_getR dX4_heldBy_14 fl_X4_18 rfl (by assumption) (by assumption) ?_
  refine mm_iload_n dX4_heldBy_17 rfl rfl ?_
  refine mm_iald dX4_heldBy_18 (by assumption) (vp_in_nI hb (by omega)) ?_
  rw [nI_clamp (by omega)]
  refine mm_goto 23 dX4_heldBy_19 (by decide) ?_
  refine mm_iret dX4_heldBy_23 rfl ?_
  exact ⟨rfl, _, rfl, rfl, rfl⟩
set_option maxRecDepth 100000 in
set_option maxHeartbeats 4000000 in
theorem c_paidBy {S : mm_S} {I : mm_I} {a b : Nat} (hL : mm_lot S a) (hb : b < 6) : mm_ci mX4_paidBy [.ref a, .int (nI b)] S I (fun q J => q = I (a + 4) b ∧ J = I) := by
  obtain ⟨hk, hp0, hp1, hp2, hp3, hB, hk3, hk4, hk5⟩ := hL
  refine mm_ci.of okX4_paidBy rfl (Nat.le_of_ble_eq_true rfl) (lv := [(0, .ref a), (1, .int (nI b))]) rfl ?_
  refine mm_iload_n dX4_paidBy_0 rfl rfl ?_
  refine mm_if_lt 22 dX4_paidBy_1 (by decide) (fun c_1 => absurd c_1 (nI_pos (by omega))) (fun c_1 => ?_)
  refine mm_iload_n dX4_paidBy_4 rfl rfl ?_
  refine mm_aload_n dX4_paidBy_5 rfl rfl ?_
  refine mm_getR dX4_paidBy_6 fl_X4_22 rfl (by assumption) (by assumption) ?_
  refine mm_alen (t := 0) dX4_paidBy_9 (by assumption) (by decide) 6 rfl ?_
  refine mm_icmp_ge 22 dX4_paidBy_10 (by decide) (fun c_10 => absurd c_10 (nI_ge (b := 6) (by omega) (by omega))) (fun c_10 => ?_)
  refine mm_aload_n dX4_paidBy_13 rfl rfl ?_
  refine mm_getR dX4_paidBy_14 fl_X4_22 rfl (by assumption) (by assumption) ?_
  refine mm_iload_n dX4_paidBy_17 rfl rfl ?_
  refine mm_iald dX4_paidBy_18 (by assumption) (vp_in_nI hb (by omega)) ?_
  rw [nI_clamp (by omega)]
  refine mm_goto 23 dX4_paidBy_19 (by decide) ?_
  refine mm_iret dX4_paidBy_23 rfl ?_
  exact ⟨rfl, _, rfl, rfl, rfl⟩
set_option maxRecDepth 100000 in
set_option maxHeartbeats 4000000 in
theorem c_deliveredTo {S : mm_S} {I : mm_I} {a b : Nat} (hL : mm_lot S a) (hb : b < 6) : mm_ci mX4_deliveredTo [.ref a, .int (nI b)] S I (fun q J => q = I (a + 5) b ∧ J = I) := by
  obtain ⟨hk, hp0, hp1, hp2, hp3, hB, hk3, hk4, hk5⟩ := hL
  refine mm_ci.of okX4_deliveredTo rfl (Nat.le_of_ble_eq_true rfl) (lv := [(0, .ref a), (1, .int (nI b))]) rfl ?_
  refine mm_iload_n dX4_deliveredTo_0 rfl rfl ?_
  refine mm_if_lt 22 dX4_deliveredTo_1 (by decide) (fun c_1 => absurd c_1 (nI_pos (by omega))) (fun c_1 => ?_)
  refine mm_iload_n dX4_deliveredTo_4 rfl rfl ?_
  refine mm_aload_n dX4_deliveredTo_5 rfl rfl ?_
  refine mm_getR dX4_deliveredTo_6 fl_X4_25 rfl (by assumption) (by assumption) ?_
  refine mm_alen (t := 0) dX4_deliveredTo_9 (by assumption) (by decide) 6 rfl ?_
  refine mm_icmp_ge 22 dX4_deliveredTo_10 (by decide) (fun c_10 => absurd c_10 (nI_ge (b := 6) (by omega) (by omega))) (fun c_10 => ?_)
  refine mm_aload_n dX4_deliveredTo_13 rfl rfl ?_
  refine mm_getR dX4_deliveredTo_14 fl_X4_25 rfl (by assumption) (by assumption) ?_
  refine mm_iload_n dX4_deliveredTo_17 rfl rfl ?_
  refine mm_iald dX4_deliveredTo_18 (by assumption) (vp_in_nI hb (by omega)) ?_
  rw [nI_clamp (by omega)]
  refine mm_goto 23 dX4_deliveredTo_19 (by decide) ?_
  refine mm_iret dX4_deliveredTo_23 rfl ?_
  exact ⟨rfl, _, rfl, rfl, rfl⟩
set_option maxRecDepth 100000 in
set_option maxHeartbeats 4000000 in
theorem c_give {S : mm_S} {I : mm_I} {a b : Nat} {x y : Int32} (hL : mm_lot S a) (hb : b < 6) : mm_cv mX4_give [.ref a, .int (nI b), .int x, .int y] S I (fun J => J = mm_wr (mm_wr I (a + 3) b (I (a + 3) b + x)) (a + 4) b (I (a + 4) b + y)) := by
  obtain ⟨hk, hp0, hp1, hp2, hp3, hB, hk3, hk4, hk5⟩ := hL
  have hin : vp_in (nI b) 6 := vp_in_nI hb (by omega)
  refine mm_cv.of okX4_give rfl (Nat.le_of_ble_eq_true rfl) (lv := [(0, .ref a), (1, .int (nI b)), (2, .int x), (3, .int y)]) rfl ?_
  refine mm_iload_n dX4_give_0 rfl rfl ?_
  refine mm_if_lt 42 dX4_give_1 (by decide) (fun c_1 => absurd c_1 (nI_pos (by omega))) (fun c_1 => ?_)
  refine mm_iload_n dX4_give_4 rfl rfl ?_
  refine mm_aload_n dX4_give_5 rfl rfl ?_
  refine mm_getR dX4_give_6 fl_X4_18 rfl (by assumption) (by assumption) ?_
  refine mm_alen (t := 0) dX4_give_9 (by assumption) (by decide) 6 rfl ?_
  refine mm_icmp_ge 42 dX4_give_10 (by decide) (fun c_10 => absurd c_10 (nI_ge (b := 6) (by omega) (by omega))) (fun c_10 => ?_)
  refine mm_iload_n dX4_give_13 rfl rfl ?_
  refine mm_aload_n dX4_give_14 rfl rfl ?_
  refine mm_getR dX4_give_15 fl_X4_22 rfl (by assumption) (by assumption) ?_
  refine mm_alen (t := 0) dX4_give_18 (by assumption) (by decide) 6 rfl ?_
  refine mm_icmp_ge 42 dX4_give_19 (by decide) (fun c_19 => absurd c_19 (nI_ge (b := 6) (by omega) (by omega))) (fun c_19 => ?_)
  refine mm_aload_n dX4_give_22 rfl rfl ?_
  refine mm_getR dX4_give_23 fl_X4_18 rfl (by assumption) (by assumption) ?_
  refine mm_iload_n dX4_give_26 rfl rfl ?_
  refine mm_dup2 dX4_give_27 rfl rfl ?_
  refine mm_iald dX4_give_28 (by assumption) (by assumption) ?_
  rw [nI_clamp (by omega)]
  refine mm_iload_n dX4_give_29 rfl rfl ?_
  refine mm_iadd dX4_give_30 ?_
  refine mm_iast dX4_give_31 (by assumption) (by assumption) ?_
  rw [nI_clamp (by omega)]
  refine mm_aload_n dX4_give_32 rfl rfl ?_
  refine mm_getR dX4_give_33 fl_X4_22 rfl (by assumption) (by assumption) ?_
  refine mm_iload_n dX4_give_36 rfl rfl ?_
  refine mm_dup2 dX4_give_37 rfl rfl ?_
  refine mm_iald dX4_give_38 (by assumption) (by assumption) ?_
  rw [nI_clamp (by omega), mm_wr_a (by omega)]
  refine mm_iload_n dX4_give_39 rfl rfl ?_
  refine mm_iadd dX4_give_40 ?_
  refine mm_iast dX4_give_41 (by assumption) (by assumption) ?_
  rw [nI_clamp (by omega)]
  refine mm_vret dX4_give_42 rfl ?_
  exact ⟨rfl, rfl, rfl⟩
set_option maxRecDepth 100000 in
set_option maxHeartbeats 4000000 in
theorem c_takeBack {S : mm_S} {I : mm_I} {a b h p k : Nat} (hL : mm_lot S a) (hb : b < 6) (h3 : I (a + 3) b = nI h) (h4 : I (a + 4) b = nI p) (hkh : k ≤ h) (hh : h ≤ 1000) (hpp : p ≤ 1000000) : mm_ci mX4_takeBack [.ref a, .int (nI b), .int (nI k)] S I (fun q J => q = nI (p * k / h) ∧ J = mm_wr (mm_wr I (a + 3) b (nI (h - k))) (a + 4) b (nI (p - p * k / h))) := by
  have hL0 := hL
  obtain ⟨hk, hp0, hp1, hp2, hp3, hB, hk3, hk4, hk5⟩ := hL
  have hpk : p * k ≤ 1000000 * 1000 := Nat.mul_le_mul hpp (by omega)
  have hle := w_share_le (p := p) hkh
  refine mm_ci.of okX4_takeBack rfl (Nat.le_of_ble_eq_true rfl) (lv := [(0, .ref a), (1, .int (nI b)), (2, .int (nI k))]) rfl ?_
  refine mm_aload_n dX4_takeBack_0 rfl rfl ?_
  refine mm_iload_n dX4_takeBack_1 rfl rfl ?_
  refine mm_Vi (N := mX4_paidBy) (ci := 4) (as := [_]) dX4_takeBack_2 lk_X4_62 okX4_paidBy (by decide) rfl (by decide) rfl (by assumption) rfl (by decide) (c_paidBy hL0 hb) (fun r1 J1 hq => ?_)
  obtain ⟨rfl, hJ⟩ := hq
  subst J1
  rw [h4]
  refine mm_iload_n dX4_takeBack_5 rfl rfl ?_
  refine mm_aload_n dX4_takeBack_6 rfl rfl ?_
  refine mm_iload_n dX4_takeBack_7 rfl rfl ?_
  refine mm_Vi (N := mX4_heldBy) (ci := 4) (as := [_]) dX4_takeBack_8 lk_X4_65 okX4_heldBy (by decide) rfl (by decide) rfl (by assumption) rfl (by first | decide | (simp [Value.category])) (c_heldBy hL0 hb) (fun r2 J1 hq => ?_)
  obtain ⟨rfl, hJ⟩ := hq
  subst J1
  rw [h3]
  refine mm_SNi (N := mX7_share) (as := [_, _, _]) dX4_takeBack_11 lk_X4_68 okX7_share (by decide) rfl rfl (by decide) (c_share (by omega) (by omega) (by omega) (by omega)) (fun r3 J1 hq => ?_)
  obtain ⟨rfl, hJ⟩ := hq
  subst J1
  refine mm_istore_n dX4_takeBack_14 rfl (Nat.le_of_ble_eq_true rfl) ?_
  refine mm_aload_n dX4_takeBack_15 rfl rfl ?_
  refine mm_iload_n dX4_takeBack_16 rfl rfl ?_
  refine mm_iload_n dX4_takeBack_17 rfl rfl ?_
  refine mm_ineg dX4_takeBack_18 ?_
  refine mm_iload_n dX4_takeBack_19 rfl rfl ?_
  refine mm_ineg dX4_takeBack_20 ?_
  refine mm_Vv (N := mX4_give) (ci := 4) (as := [_, _, _]) dX4_takeBack_21 lk_X4_72 okX4_give (by decide) rfl (by decide) rfl (by assumption) rfl (by decide) (c_give hL0 hb) (fun J1 hq => ?_)
  subst hq
  refine mm_iload_n dX4_takeBack_24 rfl rfl ?_
  refine mm_iret dX4_takeBack_25 rfl ?_
  exact ⟨rfl, _, rfl, rfl, by rw [h3, h4, nI_addneg hkh, nI_addneg hle]⟩
set_option maxRecDepth 100000 in
set_option maxHeartbeats 4000000 in
theorem c_deliver {S : mm_S} {I : mm_I} {a b h p k : Nat} (hL : mm_lot S a) (hb : b < 6) (h3 : I (a + 3) b = nI h) (h4 : I (a + 4) b = nI p) (hkh : k ≤ h) (hh : h ≤ 1000) (hpp : p ≤ 1000000) : mm_cv mX4_deliver [.ref a, .int (nI b), .int (nI k)] S I (fun J => J = mm_wr (mm_wr (mm_wr I (a + 3) b (nI (h - k))) (a + 4) b (nI (p - p * k / h))) (a + 5) b (I (a + 5) b + nI k)) := by
  have hL0 := hL
  obtain ⟨hk, hp0, hp1, hp2, hp3, hB, hk3, hk4, hk5⟩ := hL
  have hin : vp_in (nI b) 6 := vp_in_nI hb (by omega)
  refine mm_cv.of okX4_deliver rfl (Nat.le_of_ble_eq_true rfl) (lv := [(0, .ref a), (1, .int (nI b)), (2, .int (nI k))]) rfl ?_
  refine mm_iload_n dX4_deliver_0 rfl rfl ?_
  refine mm_if_lt 30 dX4_deliver_1 (by decide) (fun c_1 => absurd c_1 (nI_pos (by omega))) (fun c_1 => ?_)
  refine mm_iload_n dX4_deliver_4 rfl rfl ?_
  refine mm_aload_n dX4_deliver_5 rfl rfl ?_
  refine mm_getR dX4_deliver_6 fl_X4_25 rfl (by assumption) (by assumption) ?_
  refine mm_alen (t := 0) dX4_deliver_9 (by assumption) (by decide) 6 rfl ?_
  refine mm_icmp_ge 30 dX4_deliver_10 (by decide) (fun c_10 => absurd c_10 (nI_ge (b := 6) (by omega) (by omega))) (fun c_10 => ?_)
  refine mm_aload_n dX4_deliver_13 rfl rfl ?_
  refine mm_iload_n dX4_deliver_14 rfl rfl ?_
  refine mm_iload_n dX4_deliver_15 rfl rfl ?_
  refine mm_Vi (N := mX4_takeBack) (ci := 4) (as := [_, _]) dX4_deliver_16 lk_X4_76 okX4_takeBack (by decide) rfl (by decide) rfl (by assumption) rfl (by decide) (c_takeBack hL0 hb h3 h4 hkh hh hpp) (fun r1 J1 hq => ?_)
  obtain ⟨rfl, hJ⟩ := hq
  subst J1
  refine mm_pop dX4_deliver_19 rfl ?_
  refine mm_aload_n dX4_deliver_20 rfl rfl ?_
  refine mm_getR dX4_deliver_21 fl_X4_25 rfl (by assumption) (by assumption) ?_
  refine mm_iload_n dX4_deliver_24 rfl rfl ?_
  refine mm_dup2 dX4_deliver_25 rfl rfl ?_
  refine mm_iald dX4_deliver_26 (by assumption) (by assumption) ?_
  rw [nI_clamp (by omega), mm_wr_a (by omega), mm_wr_a (by omega)]
  refine mm_iload_n dX4_deliver_27 rfl rfl ?_
  refine mm_iadd dX4_deliver_28 ?_
  refine mm_iast dX4_deliver_29 (by assumption) (by assumption) ?_
  rw [nI_clamp (by omega)]
  refine mm_vret dX4_deliver_30 rfl ?_
  exact ⟨rfl, rfl, rfl⟩
set_option maxRecDepth 100000 in
set_option maxHeartbeats 4000000 in
theorem c_cutOf {S : mm_S} {I : mm_I} {a b h c al : Nat} (hL : mm_lot S a) (hb : b < 6) (h3 : I (a + 3) b = nI h) (hh : h ≤ 1000) (hc : c ≤ 1000) (hal : al ≤ 1000) : mm_ci mX4_cutOf [.ref a, .int (nI b), .int (nI c), .int (nI al)] S I (fun q J => q = nI (w_cut h c al) ∧ J = I) := by
  have hL0 := hL
  obtain ⟨hk, hp0, hp1, hp2, hp3, hB, hk3, hk4, hk5⟩ := hL
  have hhc : h * c ≤ 1000 * 1000 := Nat.mul_le_mul hh hc
  refine mm_ci.of okX4_cutOf rfl (Nat.le_of_ble_eq_true rfl) (lv := [(0, .ref a), (1, .int (nI b)), (2, .int (nI c)), (3, .int (nI al))]) rfl ?_
  refine mm_iload_n dX4_cutOf_0 rfl rfl ?_
  refine mm_iload_n dX4_cutOf_1 rfl rfl ?_
  refine mm_icmp_gt 7 dX4_cutOf_2 (by decide) (fun c_2 => ?_) (fun c_2 => ?_)
  · skip
    have hlt : c < al := Nat.not_le.mp fun q => absurd c_2 (Int32.not_lt.mpr (nI_le q (by omega)))
    have hle := w_share_le (p := h) (Nat.le_of_lt hlt)
    refine mm_aload_n dX4_cutOf_7 rfl rfl ?_
    refine mm_iload_n dX4_cutOf_8 rfl rfl ?_
    refine mm_Vi (N := mX4_heldBy) (ci := 4) (as := [_]) dX4_cutOf_9 lk_X4_65 okX4_heldBy (by decide) rfl (by decide) rfl (by assumption) rfl (by decide) (c_heldBy hL0 hb) (fun r1 J1 hq => ?_)
    obtain ⟨rfl, hJ⟩ := hq
    subst J1
    rw [h3]
    refine mm_aload_n dX4_cutOf_12 rfl rfl ?_
    refine mm_iload_n dX4_cutOf_13 rfl rfl ?_
    refine mm_Vi (N := mX4_heldBy) (ci := 4) (as := [_]) dX4_cutOf_14 lk_X4_65 okX4_heldBy (by decide) rfl (by decide) rfl (by assumption) rfl (by first | decide | (simp [Value.category])) (c_heldBy hL0 hb) (fun r2 J1 hq => ?_)
    obtain ⟨rfl, hJ⟩ := hq
    subst J1
    rw [h3]
    refine mm_iload_n dX4_cutOf_17 rfl rfl ?_
    refine mm_iload_n dX4_cutOf_18 rfl rfl ?_
    refine mm_SNi (N := mX7_share) (as := [_, _, _]) dX4_cutOf_19 lk_X4_68 okX7_share (by decide) rfl rfl (by first | decide | (simp [Value.category])) (c_share (by omega) (by omega) (by omega) (by omega)) (fun r3 J1 hq => ?_)
    obtain ⟨rfl, hJ⟩ := hq
    subst J1
    refine mm_isub dX4_cutOf_22 ?_
    refine mm_iret dX4_cutOf_23 rfl ?_
    exact ⟨rfl, _, rfl, by unfold w_cut; rw [if_neg (by omega)]; exact pk_sub hle, rfl⟩
  · skip
    have hle : al ≤ c := Nat.not_lt.mp fun q => c_2 (nI_lt q (by omega))
    refine mm_iconst 0 dX4_cutOf_5 rfl ?_
    refine mm_iret dX4_cutOf_6 rfl ?_
    exact ⟨rfl, _, rfl, by unfold w_cut; rw [if_pos hle]; rfl, rfl⟩
set_option maxRecDepth 100000 in
set_option maxHeartbeats 4000000 in
theorem c_fillBottles {S : mm_S} {I : mm_I} {a n r : Nat} {w : Nat → Nat} (hL : mm_lot S a) (hv : wv_at I (a + 1) n r w) (ho : wv_ok n r w) : mm_cv mX4_fillBottles [.ref a] S I (fun J => wv_at J (a + 1) 0 r (fun _ => 0) ∧ J a 4 = 1 ∧ J a 5 = nI (ws_sum w n / 90) ∧ J a 6 = I a 6 ∧ J a 7 = I a 7 ∧ ∀ c, c ≠ a → c ≠ a + 1 → c ≠ a + 1 + 1 → J c = I c) := by
  obtain ⟨hk, hp0, hp1, hp2, hp3, hB, hk3, hk4, hk5⟩ := hL
  obtain ⟨hk', hp', hkw⟩ := id hB
  obtain ⟨h1, h2, h3⟩ := id hv
  refine mm_cv.of okX4_fillBottles rfl (Nat.le_of_ble_eq_true rfl) (lv := [(0, .ref a)]) rfl ?_
  refine mm_aload_n dX4_fillBottles_0 rfl rfl ?_
  refine mm_aload_n dX4_fillBottles_1 rfl rfl ?_
  refine mm_getR dX4_fillBottles_2 fl_X4_12 rfl (by assumption) (by assumption) ?_
  refine mm_iconst 0 dX4_fillBottles_5 rfl ?_
  refine mm_Vi (N := mX0_casesBehind) (ci := 0) (as := [_]) dX4_fillBottles_6 lk_X4_58 okX0_casesBehind (by decide) rfl (by decide) rfl (by assumption) rfl (by first | decide | (simp [Value.category])) (c_casesBehind (m := 0) hB hv ho (by omega)) (fun r1 J1 hq => ?_)
  obtain ⟨rfl, hJ⟩ := hq
  subst J1
  refine mm_putI dX4_fillBottles_9 fl_X4_40 rfl rfl (by assumption) ?_
  refine mm_aload_n dX4_fillBottles_12 rfl rfl ?_
  refine mm_iconst 1 dX4_fillBottles_13 rfl ?_
  refine mm_putZ dX4_fillBottles_14 fl_X4_36 rfl rfl (Or.inr rfl) (by assumption) ?_
  refine mm_aload_n dX4_fillBottles_17 rfl rfl ?_
  refine mm_getR dX4_fillBottles_18 fl_X4_12 rfl (by assumption) (by assumption) ?_
  refine mm_iconst 0 dX4_fillBottles_21 rfl ?_
  refine mm_aload_n dX4_fillBottles_22 rfl rfl ?_
  refine mm_getR dX4_fillBottles_23 fl_X4_12 rfl (by assumption) (by assumption) ?_
  refine mm_getI dX4_fillBottles_26 fl_X4_80 rfl (by assumption) ?_
  refine mm_tope (y := nI r) (by rw [mm_wr_a (by omega), mm_wr_a (by omega)]; exact h2) ?_
  refine mm_Vv (N := mX0_fill) (ci := 0) (as := [_, _]) dX4_fillBottles_29 lk_X4_83 okX0_fill (by decide) rfl (by decide) rfl (by assumption) rfl (by decide) (c_fill (n := 0) hB (by omega)) (fun J1 hq => ?_)
  subst hq
  refine mm_vret dX4_fillBottles_32 rfl ?_
  refine ⟨rfl, rfl, ⟨?_, ?_, fun k hk => ?_⟩, ?_, ?_, ?_, ?_, fun c q1 q2 q3 => ?_⟩
  · rw [mm_row_ne (by omega), mm_wr_k (by decide), mm_wr_s]
  · rw [mm_row_ne (by omega), mm_wr_s]
  · rw [mm_row_in hk]; rfl
  · rw [mm_row_ne (by omega), mm_wr_a (by omega), mm_wr_a (by omega), mm_wr_s]
  · rw [mm_row_ne (by omega), mm_wr_a (by omega), mm_wr_a (by omega), mm_wr_k (by decide), mm_wr_s]; rfl
  · rw [mm_row_ne (by omega), mm_wr_a (by omega), mm_wr_a (by omega), mm_wr_k (by decide), mm_wr_k (by decide)]
  · rw [mm_row_ne (by omega), mm_wr_a (by omega), mm_wr_a (by omega), mm_wr_k (by decide), mm_wr_k (by decide)]
  · rw [mm_row_ne q3, mm_wr_row q2, mm_wr_row q2, mm_wr_row q1, mm_wr_row q1]
/-- the lot at a (in J) is as the lot at b (in I) -/
def mm_leq (J I : mm_I) (a b : Nat) : Prop := (J (a + 1) 1 = I (b + 1) 1 ∧ J (a + 1) 2 = I (b + 1) 2 ∧ ∀ k, k < 12 → J (a + 1 + 1) k = I (b + 1 + 1) k) ∧ (∀ k, k < 6 → J (a + 3) k = I (b + 3) k ∧ J (a + 4) k = I (b + 4) k ∧ J (a + 5) k = I (b + 5) k) ∧ J a 4 = I b 4 ∧ J a 5 = I b 5 ∧ J a 6 = I b 6 ∧ J a 7 = I b 7
set_option maxRecDepth 100000 in
set_option maxHeartbeats 4000000 in
theorem c_copyLot {S : mm_S} {I : mm_I} {a b : Nat} (hL : mm_lot S a) (gL : mm_lot S b) (hab : a + 6 ≤ b ∨ b + 6 ≤ a) (h4 : I b 4 = 0 ∨ I b 4 = 1) : mm_cv mX4_copyLot [.ref a, .ref b] S I (fun J => mm_leq J I a b ∧ ∀ c, c < a ∨ a + 6 ≤ c → J c = I c) := by
  obtain ⟨hk, hp0, hp1, hp2, hp3, hB, hk3, hk4, hk5⟩ := hL
  obtain ⟨gk, gp0, gp1, gp2, gp3, gB, gk3, gk4, gk5⟩ := gL
  refine mm_cv.of okX4_copyLot rfl (Nat.le_of_ble_eq_true rfl) (lv := [(0, .ref a), (1, .ref b)]) rfl ?_
  refine mm_aload_n dX4_copyLot_0 rfl rfl ?_
  refine mm_getR dX4_copyLot_1 fl_X4_12 rfl (by assumption) (by assumption) ?_
  refine mm_aload_n dX4_copyLot_4 rfl rfl ?_
  refine mm_getR dX4_copyLot_5 fl_X4_12 rfl (by assumption) (by assumption) ?_
  refine mm_Vv (N := mX0_copyBarrels) (ci := 0) (as := [_]) dX4_copyLot_8 lk_X4_28 okX0_copyBarrels (by decide) rfl (by decide) rfl hB.1 rfl (by decide) (c_copyBarrels hB gB (by omega)) (fun J1 hq => ?_)
  subst hq
  refine mm_aload_n dX4_copyLot_11 rfl rfl ?_
  refine mm_getR dX4_copyLot_12 fl_X4_18 rfl (by assumption) (by assumption) ?_
  refine mm_aload_n dX4_copyLot_15 rfl rfl ?_
  refine mm_getR dX4_copyLot_16 fl_X4_18 rfl (by assumption) (by assumption) ?_
  refine mm_SNv (N := mX7_copyRow) (as := [_, _]) dX4_copyLot_19 lk_X4_32 okX7_copyRow (by decide) rfl rfl (by decide) (c_copyRow gk3 hk3 (by omega)) (fun J1 hq => ?_)
  subst hq
  refine mm_aload_n dX4_copyLot_22 rfl rfl ?_
  refine mm_getR dX4_copyLot_23 fl_X4_22 rfl (by assumption) (by assumption) ?_
  refine mm_aload_n dX4_copyLot_26 rfl rfl ?_
  refine mm_getR dX4_copyLot_27 fl_X4_22 rfl (by assumption) (by assumption) ?_
  refine mm_SNv (N := mX7_copyRow) (as := [_, _]) dX4_copyLot_30 lk_X4_32 okX7_copyRow (by decide) rfl rfl (by decide) (c_copyRow gk4 hk4 (by omega)) (fun J1 hq => ?_)
  subst hq
  refine mm_aload_n dX4_copyLot_33 rfl rfl ?_
  refine mm_getR dX4_copyLot_34 fl_X4_25 rfl (by assumption) (by assumption) ?_
  refine mm_aload_n dX4_copyLot_37 rfl rfl ?_
  refine mm_getR dX4_copyLot_38 fl_X4_25 rfl (by assumption) (by assumption) ?_
  refine mm_SNv (N := mX7_copyRow) (as := [_, _]) dX4_copyLot_41 lk_X4_32 okX7_copyRow (by decide) rfl rfl (by decide) (c_copyRow gk5 hk5 (by omega)) (fun J1 hq => ?_)
  subst hq
  refine mm_G.gen (P := fun J => ((J (a + 1) 1 = I (b + 1) 1 ∧ J (a + 1) 2 = I (b + 1) 2 ∧ ∀ k, k < 12 → J (a + 1 + 1) k = I (b + 1 + 1) k) ∧ (∀ k, k < 6 → J (a + 3) k = I (b + 3) k ∧ J (a + 4) k = I (b + 4) k ∧ J (a + 5) k = I (b + 5) k)) ∧ ∀ c, c ≤ a ∨ a + 6 ≤ c → J c = I c) ⟨⟨⟨?_, ?_, fun k hk => ?_⟩, fun k hk => ⟨?_, ?_, ?_⟩⟩, fun c hc => ?_⟩ (fun J1 hJ => ?_)
  · rw [mm_row_ne (by omega), mm_row_ne (by omega), mm_row_ne (by omega), mm_wr_k (by decide), mm_wr_s]
  · rw [mm_row_ne (by omega), mm_row_ne (by omega), mm_row_ne (by omega), mm_wr_s]
  · rw [mm_row_ne (by omega), mm_row_ne (by omega), mm_row_ne (by omega), mm_wr_a (by omega), mm_wr_a (by omega), mm_row_in hk]
  · rw [mm_row_ne (by omega), mm_row_ne (by omega), mm_row_in hk, mm_wr_row (by omega), mm_wr_row (by omega), mm_row_ne (by omega)]
  · rw [mm_row_ne (by omega), mm_row_in hk, mm_row_ne (by omega), mm_wr_row (by omega), mm_wr_row (by omega), mm_row_ne (by omega)]
  · rw [mm_row_in hk, mm_row_ne (by omega), mm_row_ne (by omega), mm_wr_row (by omega), mm_wr_row (by omega), mm_row_ne (by omega)]
  · rw [mm_row_ne (by omega), mm_row_ne (by omega), mm_row_ne (by omega), mm_wr_row (by omega), mm_wr_row (by omega), mm_row_ne (by omega)]
  obtain ⟨⟨j1, j2⟩, j3⟩ := hJ
  have jb : J1 b = I b := j3 b (by omega)
  rw [← jb] at h4
  refine mm_aload_n dX4_copyLot_44 rfl rfl ?_
  refine mm_aload_n dX4_copyLot_45 rfl rfl ?_
  refine mm_getI dX4_copyLot_46 fl_X4_36 rfl (by assumption) ?_
  refine mm_putZ dX4_copyLot_49 fl_X4_36 rfl rfl h4 (by assumption) ?_
  refine mm_aload_n dX4_copyLot_52 rfl rfl ?_
  refine mm_aload_n dX4_copyLot_53 rfl rfl ?_
  refine mm_getI dX4_copyLot_54 fl_X4_40 rfl (by assumption) ?_
  refine mm_putI dX4_copyLot_57 fl_X4_40 rfl rfl (by assumption) ?_
  refine mm_aload_n dX4_copyLot_60 rfl rfl ?_
  refine mm_aload_n dX4_copyLot_61 rfl rfl ?_
  refine mm_getI dX4_copyLot_62 fl_X4_44 rfl (by assumption) ?_
  refine mm_putI dX4_copyLot_65 fl_X4_44 rfl rfl (by assumption) ?_
  refine mm_aload_n dX4_copyLot_68 rfl rfl ?_
  refine mm_aload_n dX4_copyLot_69 rfl rfl ?_
  refine mm_getI dX4_copyLot_70 fl_X4_47 rfl (by assumption) ?_
  refine mm_putI dX4_copyLot_73 fl_X4_47 rfl rfl (by assumption) ?_
  refine mm_vret dX4_copyLot_76 rfl ?_
  refine ⟨rfl, rfl, ⟨⟨?_, ?_, fun k hk => ?_⟩, fun k hk => ⟨?_, ?_, ?_⟩, ?_, ?_, ?_, ?_⟩, fun c hc => ?_⟩
  · rw [mm_wr_a (by omega), mm_wr_a (by omega), mm_wr_a (by omega), mm_wr_a (by omega)]; exact j1.1
  · rw [mm_wr_a (by omega), mm_wr_a (by omega), mm_wr_a (by omega), mm_wr_a (by omega)]; exact j1.2.1
  · rw [mm_wr_a (by omega), mm_wr_a (by omega), mm_wr_a (by omega), mm_wr_a (by omega)]; exact j1.2.2 k hk
  · rw [mm_wr_a (by omega), mm_wr_a (by omega), mm_wr_a (by omega), mm_wr_a (by omega)]; exact (j2 k hk).1
  · rw [mm_wr_a (by omega), mm_wr_a (by omega), mm_wr_a (by omega), mm_wr_a (by omega)]; exact (j2 k hk).2.1
  · rw [mm_wr_a (by omega), mm_wr_a (by omega), mm_wr_a (by omega), mm_wr_a (by omega)]; exact (j2 k hk).2.2
  · rw [mm_wr_k (by decide), mm_wr_k (by decide), mm_wr_k (by decide), mm_wr_s, jb]
  · rw [mm_wr_k (by decide), mm_wr_k (by decide), mm_wr_s, mm_wr_a (by omega), jb]
  · rw [mm_wr_k (by decide), mm_wr_s, mm_wr_a (by omega), mm_wr_a (by omega), jb]
  · rw [mm_wr_s, mm_wr_a (by omega), mm_wr_a (by omega), mm_wr_a (by omega), jb]
  · rw [mm_wr_row (by omega), mm_wr_row (by omega), mm_wr_row (by omega), mm_wr_row (by omega)]; exact j3 c (by omega)
set_option maxRecDepth 100000 in
set_option maxHeartbeats 4000000 in
theorem c_copyBook {S : mm_S} {I : mm_I} {a b : Nat} (hB : mm_bk S a) (gB : mm_bk S b) (hab : b ≠ a + 1) : mm_cv mX1_copyBook [.ref a, .ref b] S I (fun J => J = mm_wr (mm_row I (a + 1) 72 (I (b + 1))) a 1 (I b 1)) := by
  obtain ⟨hk, hp, hkw⟩ := hB
  obtain ⟨gk, gp, gkw⟩ := gB
  refine mm_cv.of okX1_copyBook rfl (Nat.le_of_ble_eq_true rfl) (lv := [(0, .ref a), (1, .ref b)]) rfl ?_
  refine mm_aload_n dX1_copyBook_0 rfl rfl ?_
  refine mm_getR dX1_copyBook_1 fl_X1_9 rfl (by assumption) (by assumption) ?_
  refine mm_aload_n dX1_copyBook_4 rfl rfl ?_
  refine mm_getR dX1_copyBook_5 fl_X1_9 rfl (by assumption) (by assumption) ?_
  refine mm_SNv (N := mX7_copyRow) (as := [_, _]) dX1_copyBook_8 lk_X1_15 okX7_copyRow (by decide) rfl rfl (by decide) (c_copyRow gkw hkw (by omega)) (fun J1 hq => ?_)
  subst hq
  refine mm_aload_n dX1_copyBook_11 rfl rfl ?_
  refine mm_aload_n dX1_copyBook_12 rfl rfl ?_
  refine mm_getI dX1_copyBook_13 fl_X1_19 rfl (by assumption) ?_
  rw [mm_row_ne hab]
  refine mm_putI dX1_copyBook_16 fl_X1_19 rfl rfl (by assumption) ?_
  refine mm_vret dX1_copyBook_19 rfl ?_
  exact ⟨rfl, rfl, rfl⟩
set_option maxRecDepth 100000 in
set_option maxHeartbeats 4000000 in
theorem c_cell {S : mm_S} {I : mm_I} {a e : Nat} {i w : Int32} (hB : mm_bk S a) (h1 : I a 1 = nI e) (he : e ≤ 12) : mm_ci mX1_cell [.ref a, .int i, .int w] S I (fun q J => q = w_cell (nI e) (I (a + 1)) i w ∧ J = I) := by
  obtain ⟨hk, hp, hkw⟩ := hB
  refine mm_ci.of okX1_cell rfl (Nat.le_of_ble_eq_true rfl) (lv := [(0, .ref a), (1, .int i), (2, .int w)]) rfl ?_
  refine mm_iload_n dX1_cell_0 rfl rfl ?_
  refine mm_if_lt 13 dX1_cell_1 (by decide) (fun c_1 => ?_) (fun c_1 => ?_)
  · skip
    have hw1 : w_cell (nI e) (I (a + 1)) i w = -2000000001 := if_pos (Or.inl c_1)
    refine mm_ldc dX1_cell_13 ct_X1_27 ?_
    refine mm_iret dX1_cell_15 rfl ?_
    exact ⟨rfl, _, rfl, hw1.symm, rfl⟩
  · skip
    refine mm_iload_n dX1_cell_4 rfl rfl ?_
    refine mm_iconst 0 dX1_cell_5 rfl ?_
    refine mm_iconst 5 dX1_cell_6 rfl ?_
    refine mm_SNi (N := mX7_within) (as := [_, _, _]) dX1_cell_7 lk_X1_23 okX7_within (by decide) rfl rfl (by decide) c_within (fun r1 J1 hq => ?_)
    obtain ⟨rfl, hJ⟩ := hq
    subst J1
    refine mm_if_ne 16 dX1_cell_10 (by decide) (fun c_10 => ?_) (fun c_10 => ?_)
    · skip
      have hc : 0 ≤ w ∧ w ≤ 5 := Classical.byContradiction fun q => c_10 (if_neg q)
      have hn : ¬ (i < 0 ∨ ¬ (0 ≤ w ∧ w ≤ 5)) := fun q => q.elim c_1 (fun q => q hc)
      obtain ⟨i', hi31, rfl⟩ := nI_of c_1
      obtain ⟨w', hw5, rfl⟩ := nI_of2 (M := 5) (n := 5) rfl (Int32.not_lt.mpr hc.1) hc.2
      refine mm_iload_n dX1_cell_16 rfl rfl ?_
      refine mm_aload_n dX1_cell_17 rfl rfl ?_
      refine mm_getI dX1_cell_18 fl_X1_19 rfl (by assumption) ?_
      refine mm_tope (y := nI e) h1 ?_
      refine mm_icmp_ge 30 dX1_cell_21 (by decide) (fun c_21 => ?_) (fun c_21 => ?_)
      · skip
        have hw1 : w_cell (nI e) (I (a + 1)) (nI i') (nI w') = -2000000004 := by unfold w_cell; rw [if_neg hn, if_neg (Int32.not_lt.mpr c_21)]
        refine mm_ldc dX1_cell_30 ct_X1_28 ?_
        refine mm_iret dX1_cell_32 rfl ?_
        exact ⟨rfl, _, rfl, hw1.symm, rfl⟩
      · skip
        have hlt : i' < e := Nat.not_le.mp fun q => c_21 (nI_le q (by omega))
        have hw1 : w_cell (nI e) (I (a + 1)) (nI i') (nI w') = I (a + 1) (6 * i' + w') := by unfold w_cell; rw [if_neg hn, if_pos (Int32.not_le.mp c_21), nI_clamp (by omega), nI_clamp (by omega)]
        refine mm_iload_n dX1_cell_24 rfl rfl ?_
        refine mm_bipush 12 dX1_cell_25 rfl ?_
        refine mm_icmp_lt 33 dX1_cell_27 (by decide) (fun c_27 => ?_) (fun c_27 => absurd (nI_lt (b := 12) (by omega) (by omega)) c_27)
        refine mm_aload_n dX1_cell_33 rfl rfl ?_
        refine mm_getR dX1_cell_34 fl_X1_9 rfl (by assumption) (by assumption) ?_
        refine mm_iload_n dX1_cell_37 rfl rfl ?_
        refine mm_bipush 6 dX1_cell_38 rfl ?_
        refine mm_imul dX1_cell_40 ?_
        refine mm_iload_n dX1_cell_41 rfl rfl ?_
        refine mm_iadd dX1_cell_42 ?_
        refine mm_tope (y := nI (6 * i' + w')) (by rw [show (6 : Int32) = nI 6 from rfl, pk_mul, nI_add, Nat.mul_comm]) ?_
        refine mm_iald dX1_cell_43 (by assumption) (vp_in_nI (by omega) (by omega)) ?_
        rw [nI_clamp (by omega)]
        refine mm_iret dX1_cell_44 rfl ?_
        exact ⟨rfl, _, rfl, hw1.symm, rfl⟩
    · skip
      have hc : ¬ (0 ≤ w ∧ w ≤ 5) := fun q => by rw [if_pos q] at c_10; exact absurd c_10 (by decide)
      have hw1 : w_cell (nI e) (I (a + 1)) i w = -2000000001 := if_pos (Or.inr hc)
      refine mm_ldc dX1_cell_13 ct_X1_27 ?_
      refine mm_iret dX1_cell_15 rfl ?_
      exact ⟨rfl, _, rfl, hw1.symm, rfl⟩
set_option maxRecDepth 100000 in
set_option maxHeartbeats 4000000 in
theorem c_write {S : mm_S} {I : mm_I} {a e : Nat} {k l b c m f : Int32} (hB : mm_bk S a) (h1 : I a 1 = nI e) (he : e ≤ 12) : mm_cv mX1_write [.ref a, .int k, .int l, .int b, .int c, .int m, .int f] S I (fun J => J = mm_wr (mm_row I (a + 1) 72 (w_book (I (a + 1)) k l b c m f)) a 1 (nI (if e < 12 then e + 1 else 12))) := by
  obtain ⟨hk, hp, hkw⟩ := hB
  have hsh : ∀ i, i ≤ 66 → 6 ≤ 71 - i + 6 := by intro i hi; omega
  refine mm_cv.of okX1_write rfl (Nat.le_of_ble_eq_true rfl) (lv := [(0, .ref a), (1, .int k), (2, .int l), (3, .int b), (4, .int c), (5, .int m), (6, .int f)]) rfl ?_
  -- at index i (from 71 down to 6): the places above i are shifted
  have loop : ∀ (t i : Nat), i = t + 5 → i ≤ 71 → ∀ (I1 : mm_I), (∀ j, j < 72 → I1 (a + 1) j = if i < j then I (a + 1) (j - 6) else I (a + 1) j) → (∀ j, 72 ≤ j → I1 (a + 1) j = I (a + 1) j) → (∀ q, q ≠ a + 1 → I1 q = I q) → mm_Gv mX1_write (fun J => J = mm_wr (mm_row I (a + 1) 72 (w_book (I (a + 1)) k l b c m f)) a 1 (nI (if e < 12 then e + 1 else 12))) 9 [(7, .int (nI i)), (0, .ref a), (1, .int k), (2, .int l), (3, .int b), (4, .int c), (5, .int m), (6, .int f)] [] S S I1 := by
    intro t
    induction t with
    | zero =>
      intro i hi hi2 I1 g1 g2 g3
      have hi5 : i = 5 := by omega
      subst hi5
      refine mm_iload dX1_write_9 rfl ?_
      refine mm_bipush 6 dX1_write_11 rfl ?_
      refine mm_icmp_lt 39 dX1_write_13 (by decide) (fun c_13 => ?_) (fun c_13 => absurd (by decide) c_13)
      refine mm_aload_n dX1_write_39 rfl rfl ?_
      refine mm_getR dX1_write_40 fl_X1_9 rfl (by assumption) (by assumption) ?_
      refine mm_iconst 0 dX1_write_43 rfl ?_
      refine mm_iload_n dX1_write_44 rfl rfl ?_
      refine mm_iast dX1_write_45 (by assumption) (vp_in_nI (n := 0) (by omega) (by omega)) ?_
      refine mm_aload_n dX1_write_46 rfl rfl ?_
      refine mm_getR dX1_write_47 fl_X1_9 rfl (by assumption) (by assumption) ?_
      refine mm_iconst 1 dX1_write_50 rfl ?_
      refine mm_iload_n dX1_write_51 rfl rfl ?_
      refine mm_iast dX1_write_52 (by assumption) (vp_in_nI (n := 1) (by omega) (by omega)) ?_
      refine mm_aload_n dX1_write_53 rfl rfl ?_
      refine mm_getR dX1_write_54 fl_X1_9 rfl (by assumption) (by assumption) ?_
      refine mm_iconst 2 dX1_write_57 rfl ?_
      refine mm_iload_n dX1_write_58 rfl rfl ?_
      refine mm_iast dX1_write_59 (by assumption) (vp_in_nI (n := 2) (by omega) (by omega)) ?_
      refine mm_aload_n dX1_write_60 rfl rfl ?_
      refine mm_getR dX1_write_61 fl_X1_9 rfl (by assumption) (by assumption) ?_
      refine mm_iconst 3 dX1_write_64 rfl ?_
      refine mm_iload dX1_write_65 rfl ?_
      refine mm_iast dX1_write_67 (by assumption) (vp_in_nI (n := 3) (by omega) (by omega)) ?_
      refine mm_aload_n dX1_write_68 rfl rfl ?_
      refine mm_getR dX1_write_69 fl_X1_9 rfl (by assumption) (by assumption) ?_
      refine mm_iconst 4 dX1_write_72 rfl ?_
      refine mm_iload dX1_write_73 rfl ?_
      refine mm_iast dX1_write_75 (by assumption) (vp_in_nI (n := 4) (by omega) (by omega)) ?_
      refine mm_aload_n dX1_write_76 rfl rfl ?_
      refine mm_getR dX1_write_77 fl_X1_9 rfl (by assumption) (by assumption) ?_
      refine mm_iconst 5 dX1_write_80 rfl ?_
      refine mm_iload dX1_write_81 rfl ?_
      refine mm_iast dX1_write_83 (by assumption) (vp_in_nI (n := 5) (by omega) (by omega)) ?_
      refine mm_G.i (I' := mm_row I (a + 1) 72 (w_book (I (a + 1)) k l b c m f)) ?_ ?_
      · funext q j
        rw [show (5 : Int32).toNatClampNeg = 5 from rfl, show (4 : Int32).toNatClampNeg = 4 from rfl, show (3 : Int32).toNatClampNeg = 3 from rfl, show (2 : Int32).toNatClampNeg = 2 from rfl, show (1 : Int32).toNatClampNeg = 1 from rfl, show (0 : Int32).toNatClampNeg = 0 from rfl]
        by_cases hq : q = a + 1
        · subst hq
          by_cases hj : j < 72
          · rw [mm_row_in hj]
            by_cases hj6 : j < 6
            · unfold w_book
              rw [if_pos hj6]
              rcases (show j = 0 ∨ j = 1 ∨ j = 2 ∨ j = 3 ∨ j = 4 ∨ j = 5 by omega) with rfl | rfl | rfl | rfl | rfl | rfl <;> simp [mm_wr, w_six]
            · unfold w_book
              rw [if_neg hj6]
              rw [mm_wr_k (by omega), mm_wr_k (by omega), mm_wr_k (by omega), mm_wr_k (by omega), mm_wr_k (by omega), mm_wr_k (by omega), g1 j hj, if_pos (by omega)]
          · rw [mm_row_out (by omega), mm_wr_k (by omega), mm_wr_k (by omega), mm_wr_k (by omega), mm_wr_k (by omega), mm_wr_k (by omega), mm_wr_k (by omega), g2 j (by omega)]
        · rw [mm_row_ne hq, mm_wr_a hq, mm_wr_a hq, mm_wr_a hq, mm_wr_a hq, mm_wr_a hq, mm_wr_a hq, g3 q hq]
      refine mm_aload_n dX1_write_84 rfl rfl ?_
      refine mm_getI dX1_write_85 fl_X1_19 rfl (by assumption) ?_
      refine mm_tope (y := nI e) (by rw [mm_row_ne (by omega)]; exact h1) ?_
      refine mm_bipush 12 dX1_write_88 rfl ?_
      refine mm_icmp_ge 103 dX1_write_90 (by decide) (fun c_90 => ?_) (fun c_90 => ?_)
      · skip
        have hge : ¬ e < 12 := fun q => absurd c_90 (nI_ge (b := 12) q (by omega))
        have he12 : e = 12 := by omega
        refine mm_vret dX1_write_103 rfl ?_
        first
          | exact ⟨rfl, rfl, by rw [if_pos hlt]⟩
          | exact ⟨rfl, rfl, by
              rw [if_neg hge]
              funext q j
              by_cases hq : q = a ∧ j = 1
              · obtain ⟨rfl, rfl⟩ := hq
                rw [mm_wr_s, mm_row_ne (by omega), h1, he12]
              · unfold mm_wr
                rw [if_neg hq]⟩
      · skip
        have hlt : e < 12 := Nat.not_le.mp fun q => c_90 (nI_le (a := 12) q (by omega))
        refine mm_aload_n dX1_write_93 rfl rfl ?_
        refine mm_dup dX1_write_94 rfl ?_
        refine mm_getI dX1_write_95 fl_X1_19 rfl (by assumption) ?_
        refine mm_tope (y := nI e) (by rw [mm_row_ne (by omega)]; exact h1) ?_
        refine mm_iconst 1 dX1_write_98 rfl ?_
        refine mm_iadd dX1_write_99 ?_
        refine mm_tope (y := nI (e + 1)) (nI_1 e) ?_
        refine mm_putI dX1_write_100 fl_X1_19 rfl rfl (by assumption) ?_
        refine mm_vret dX1_write_103 rfl ?_
        first
          | exact ⟨rfl, rfl, by rw [if_pos hlt]⟩
          | exact ⟨rfl, rfl, by
              rw [if_neg hge]
              funext q j
              by_cases hq : q = a ∧ j = 1
              · obtain ⟨rfl, rfl⟩ := hq
                rw [mm_wr_s, mm_row_ne (by omega), h1, he12]
              · unfold mm_wr
                rw [if_neg hq]⟩
    | succ t ih =>
      intro i hi hi2 I1 g1 g2 g3
      have hin1 : vp_in (nI i) 72 := vp_in_nI (by omega) (by omega)
      have hin2 : vp_in (nI (i - 6)) 72 := vp_in_nI (by omega) (by omega)
      refine mm_iload dX1_write_9 rfl ?_
      refine mm_bipush 6 dX1_write_11 rfl ?_
      refine mm_icmp_lt 39 dX1_write_13 (by decide) (fun c_13 => absurd c_13 (fun q => absurd q (Int32.not_lt.mpr (nI_le (a := 6) (by omega) (by omega))))) (fun c_13 => ?_)
      refine mm_aload_n dX1_write_16 rfl rfl ?_
      refine mm_getR dX1_write_17 fl_X1_9 rfl (by assumption) (by assumption) ?_
      refine mm_iload dX1_write_20 rfl ?_
      refine mm_aload_n dX1_write_22 rfl rfl ?_
      refine mm_getR dX1_write_23 fl_X1_9 rfl (by assumption) (by assumption) ?_
      refine mm_iload dX1_write_26 rfl ?_
      refine mm_bipush 6 dX1_write_28 rfl ?_
      refine mm_isub dX1_write_30 ?_
      refine mm_tope (y := nI (i - 6)) (pk_sub (b := 6) (by omega)) ?_
      refine mm_iald dX1_write_31 (by assumption) (by assumption) ?_
      rw [nI_clamp (by omega)]
      refine mm_iast dX1_write_32 (by assumption) (by assumption) ?_
      rw [nI_clamp (by omega)]
      refine mm_iinc (-1) dX1_write_33 rfl rfl (Nat.le_of_ble_eq_true rfl) ?_
      rw [show nI i + -1 = nI (i - 1) from by rw [← Int32.sub_eq_add_neg]; exact nI_m1 (by omega)]
      refine mm_goto 9 dX1_write_36 (by decide) ?_
      exact mm_G.at (ih (i - 1) (by omega) (by omega) _ (fun j hj => by
                by_cases e1 : j = i
                · subst e1
                  rw [mm_wr_s, g1 (j - 6) (by omega), if_neg (by omega), if_pos (by omega)]
                · rw [mm_wr_k e1, g1 j hj]
                  by_cases e2 : i < j
                  · rw [if_pos e2, if_pos (by omega)]
                  · rw [if_neg e2, if_neg (by omega)]) (fun j hj => by rw [mm_wr_k (by omega)]; exact g2 j hj) (fun q hq => by rw [mm_wr_row hq]; exact g3 q hq)) (mm_s1 rfl (mm_s1 rfl (mm_s1 rfl (mm_s1 rfl (mm_s1 rfl (mm_s1 rfl (mm_s1 rfl (mm_s1 rfl mm_s0))))))))
  refine mm_aload_n dX1_write_0 rfl rfl ?_
  refine mm_getR dX1_write_1 fl_X1_9 rfl (by assumption) (by assumption) ?_
  refine mm_alen (t := 0) dX1_write_4 (by assumption) (by decide) 72 rfl ?_
  refine mm_iconst 1 dX1_write_5 rfl ?_
  refine mm_isub dX1_write_6 ?_
  refine mm_tope (y := nI 71) rfl ?_
  refine mm_istore dX1_write_7 (Nat.le_of_ble_eq_true rfl) ?_
  exact mm_G.at (loop 66 71 rfl (by omega) I (fun j hj => by rw [if_neg (by omega)]) (fun _ _ => rfl) (fun _ _ => rfl)) (mm_s1 rfl (mm_s1 rfl (mm_s1 rfl (mm_s1 rfl (mm_s1 rfl (mm_s1 rfl (mm_s1 rfl (mm_s1 rfl mm_s0))))))))
