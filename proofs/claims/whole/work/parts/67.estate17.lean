/-! THE CLASS: an estate is copied -/
theorem lot_leq {I J : mm_I} {a b l : Nat} {s : Nat → Int32} (h : mm_leq J I a b) (g : lot_at I b s l) : lot_at J a s l := by
  obtain ⟨⟨h1, h2, h3⟩, h4, h5, h6, h7, h8⟩ := h
  obtain ⟨⟨g1, g2, g3⟩, g4, g5, g6, g7, g8⟩ := g
  refine ⟨⟨h1.trans g1, h2.trans g2, fun k hk => (h3 k hk).trans (g3 k hk)⟩, fun k hk => ?_, h5.trans g5, h6.trans g6, h7.trans g7, h8.trans g8⟩
  obtain ⟨p1, p2, p3⟩ := h4 k hk
  obtain ⟨q1, q2, q3⟩ := g4 k hk
  exact ⟨p1.trans q1, p2.trans q2, p3.trans q3⟩

set_option maxRecDepth 100000 in
set_option maxHeartbeats 4000000 in
theorem c_copyEstate {S : mm_S} {I : mm_I} {a b : Nat} {s : Nat → Int32} (hA : mm_est S a) (hB : mm_est S b) (hab : a + 43 ≤ b ∨ b + 43 ≤ a) (hs : est_at I b s) (hi : Inv s) : mm_cv mX2_copyEstate [.ref a, .ref b] S I (fun J => est_at J a s ∧ e_fr a I J) := by
  obtain ⟨ak, ap0, ap1, ap2, ap3, ak1, ak2, abk, abar, alots⟩ := hA
  obtain ⟨bk, bp0, bp1, bp2, bp3, bk1, bk2, bbk, bbar, blots⟩ := hB
  have abk0 : (S.2.1 (a + 3)).1 = 1 := abk.1
  refine mm_cv.of okX2_copyEstate rfl (Nat.le_of_ble_eq_true rfl) (lv := [(0, .ref a), (1, .ref b)]) rfl ?_
  have loop : ∀ (t i : Nat) (I1 : mm_I), i + t = 6 → (∀ l, l < i → lot_at I1 (a + 7 + 6 * l) s l) → (∀ c, c < a + 7 ∨ a + 7 + 6 * i ≤ c → I1 c = I c) → mm_Gv mX2_copyEstate (fun J => est_at J a s ∧ e_fr a I J) 2 [(2, .int (nI i)), (0, .ref a), (1, .ref b)] [] S S I1 := by
    intro t
    induction t with
    | zero =>
      intro i I1 hit g1 g2
      refine mm_iload_n dX2_copyEstate_2 rfl rfl ?_
      refine mm_aload_n dX2_copyEstate_3 rfl rfl ?_
      refine mm_getR dX2_copyEstate_4 fl_X2_11 rfl (by assumption) (by assumption) ?_
      refine mm_alen (t := 1) dX2_copyEstate_7 (by assumption) (by decide) 6 rfl ?_
      refine mm_icmp_ge 56 dX2_copyEstate_8 (by decide) (fun c_8 => ?_) (fun c_8 => absurd (nI_le (a := 6) (by omega) (by omega)) c_8)
      refine mm_aload_n dX2_copyEstate_56 rfl rfl ?_
      refine mm_getR dX2_copyEstate_57 fl_X2_17 rfl (by assumption) (by assumption) ?_
      refine mm_aload_n dX2_copyEstate_60 rfl rfl ?_
      refine mm_getR dX2_copyEstate_61 fl_X2_17 rfl (by assumption) (by assumption) ?_
      refine mm_SNv (N := mX7_copyRow) (as := [_, _]) dX2_copyEstate_64 lk_X2_47 okX7_copyRow (by decide) rfl rfl (by decide) (c_copyRow (N := 6) bk2 ak2 (by omega)) (fun J1 hq => ?_)
      subst hq
      refine mm_aload_n dX2_copyEstate_67 rfl rfl ?_
      refine mm_getR dX2_copyEstate_68 fl_X2_24 rfl (by assumption) (by assumption) ?_
      refine mm_aload_n dX2_copyEstate_71 rfl rfl ?_
      refine mm_getR dX2_copyEstate_72 fl_X2_24 rfl (by assumption) (by assumption) ?_
      refine mm_Vv (N := mX1_copyBook) (ci := 1) (as := [_]) dX2_copyEstate_75 lk_X2_51 okX1_copyBook (by decide) rfl (by decide) rfl (by assumption) rfl (by decide) (c_copyBook abk bbk (by omega)) (fun J2 hq => ?_)
      have hr : ∀ c, c ≠ a + 2 → c ≠ a + 3 → c ≠ a + 3 + 1 → J2 c = I1 c := fun c c1 c2 c3 => by rw [hq, mm_wr_row c2, mm_row_n c3, mm_row_n c1]
      have hbI : ∀ c, b ≤ c → c < b + 43 → I1 c = I c := fun c c1 c2 => g2 c (by omega)
      have x2 : ∀ k, k < 6 → J2 (a + 2) k = s (129 + k) := fun k hk => by
        rw [hq, mm_wr_row (by omega), mm_row_n (by omega), mm_row_in hk, hbI _ (by omega) (by omega)]; exact hs.2.1 k hk
      have x3 : J2 (a + 3) 1 = s 6 := by rw [hq, mm_wr_s, mm_row_n (by omega), hbI _ (by omega) (by omega)]; exact hs.2.2.1
      have x4 : ∀ k, k < 72 → J2 (a + 3 + 1) k = s (244 + k) := fun k hk => by
        rw [hq, mm_wr_row (by omega), mm_row_in hk, mm_row_n (by omega), hbI _ (by omega) (by omega)]; exact hs.2.2.2.1 k hk
      have x5 : ∀ l, l < 6 → lot_at J2 (a + 7 + 6 * l) s l := fun l hl => lot_at_I (fun c c1 c2 => hr c (by omega) (by omega) (by omega)) (g1 l (by omega))
      have xb : J2 b = I b := (hr b (by omega) (by omega) (by omega)).trans (hbI b (by omega) (by omega))
      have xf : e_fr a I J2 := fun c hc => (hr c (by omega) (by omega) (by omega)).trans (g2 c (by omega))
      have hba : b ≠ a := by omega
      obtain ⟨y4, y5, y6, y7, y8, y9, y10, y11⟩ := hs.1
      rw [← xb] at y4 y5 y6 y7 y8 y9 y10 y11
      clear hq
      refine mm_aload_n dX2_copyEstate_78 rfl rfl ?_
      refine mm_aload_n dX2_copyEstate_79 rfl rfl ?_
      refine mm_getI dX2_copyEstate_80 fl_X2_55 rfl (by assumption) ?_
      refine mm_tope (y := s 0) (by (repeat rw [mm_wr_a hba]); exact y4) ?_
      refine mm_putI dX2_copyEstate_83 fl_X2_55 rfl rfl (by assumption) ?_
      refine mm_aload_n dX2_copyEstate_86 rfl rfl ?_
      refine mm_aload_n dX2_copyEstate_87 rfl rfl ?_
      refine mm_getI dX2_copyEstate_88 fl_X2_58 rfl (by assumption) ?_
      refine mm_tope (y := s 1) (by (repeat rw [mm_wr_a hba]); exact y5) ?_
      refine mm_putI dX2_copyEstate_91 fl_X2_58 rfl rfl (by assumption) ?_
      refine mm_aload_n dX2_copyEstate_94 rfl rfl ?_
      refine mm_aload_n dX2_copyEstate_95 rfl rfl ?_
      refine mm_getI dX2_copyEstate_96 fl_X2_61 rfl (by assumption) ?_
      refine mm_tope (y := s 135) (by (repeat rw [mm_wr_a hba]); exact y6) ?_
      refine mm_putI dX2_copyEstate_99 fl_X2_61 rfl rfl (by assumption) ?_
      refine mm_aload_n dX2_copyEstate_102 rfl rfl ?_
      refine mm_aload_n dX2_copyEstate_103 rfl rfl ?_
      refine mm_getI dX2_copyEstate_104 fl_X2_35 rfl (by assumption) ?_
      refine mm_tope (y := s 7) (by (repeat rw [mm_wr_a hba]); exact y7) ?_
      refine mm_putI dX2_copyEstate_107 fl_X2_35 rfl rfl (by assumption) ?_
      refine mm_aload_n dX2_copyEstate_110 rfl rfl ?_
      refine mm_aload_n dX2_copyEstate_111 rfl rfl ?_
      refine mm_getI dX2_copyEstate_112 fl_X2_39 rfl (by assumption) ?_
      refine mm_tope (y := s 8) (by (repeat rw [mm_wr_a hba]); exact y8) ?_
      refine mm_putI dX2_copyEstate_115 fl_X2_39 rfl rfl (by assumption) ?_
      refine mm_aload_n dX2_copyEstate_118 rfl rfl ?_
      refine mm_aload_n dX2_copyEstate_119 rfl rfl ?_
      refine mm_getI dX2_copyEstate_120 fl_X2_64 rfl (by assumption) ?_
      refine mm_tope (y := s 2) (by (repeat rw [mm_wr_a hba]); exact y9) ?_
      refine mm_putI dX2_copyEstate_123 fl_X2_64 rfl rfl (by assumption) ?_
      refine mm_aload_n dX2_copyEstate_126 rfl rfl ?_
      refine mm_aload_n dX2_copyEstate_127 rfl rfl ?_
      refine mm_getI dX2_copyEstate_128 fl_X2_67 rfl (by assumption) ?_
      refine mm_tope (y := s 3) (by (repeat rw [mm_wr_a hba]); exact y10) ?_
      refine mm_putI dX2_copyEstate_131 fl_X2_67 rfl rfl (by assumption) ?_
      refine mm_aload_n dX2_copyEstate_134 rfl rfl ?_
      refine mm_aload_n dX2_copyEstate_135 rfl rfl ?_
      refine mm_getI dX2_copyEstate_136 fl_X2_70 rfl (by assumption) ?_
      refine mm_tope (y := s 5) (by (repeat rw [mm_wr_a hba]); exact y11) ?_
      refine mm_putI dX2_copyEstate_139 fl_X2_70 rfl rfl (by assumption) ?_
      refine mm_vret dX2_copyEstate_142 rfl ?_
      refine ⟨rfl, rfl, ?_⟩
      have hw : ∀ c, c ≠ a → (mm_wr (mm_wr (mm_wr (mm_wr (mm_wr (mm_wr (mm_wr (mm_wr J2 a 4 (s 0)) a 5 (s 1)) a 6 (s 135)) a 7 (s 7)) a 8 (s 8)) a 9 (s 2)) a 10 (s 3)) a 11 (s 5)) c = J2 c := fun c hc => by (repeat rw [mm_wr_row hc])
      refine ⟨⟨⟨?_, ?_, ?_, ?_, ?_, ?_, ?_, ?_⟩, fun k hk => by rw [hw _ (by omega)]; exact x2 k hk, by rw [hw _ (by omega)]; exact x3, fun k hk => by rw [hw _ (by omega)]; exact x4 k hk, fun l hl => lot_at_I (fun c c1 c2 => hw c (by omega)) (x5 l hl)⟩, fun c hc => (hw c (by omega)).trans (xf c hc)⟩
      · rw [mm_wr_k (by decide)]; rw [mm_wr_k (by decide)]; rw [mm_wr_k (by decide)]; rw [mm_wr_k (by decide)]; rw [mm_wr_k (by decide)]; rw [mm_wr_k (by decide)]; rw [mm_wr_k (by decide)]; exact mm_wr_s
      · rw [mm_wr_k (by decide)]; rw [mm_wr_k (by decide)]; rw [mm_wr_k (by decide)]; rw [mm_wr_k (by decide)]; rw [mm_wr_k (by decide)]; rw [mm_wr_k (by decide)]; exact mm_wr_s
      · rw [mm_wr_k (by decide)]; rw [mm_wr_k (by decide)]; rw [mm_wr_k (by decide)]; rw [mm_wr_k (by decide)]; rw [mm_wr_k (by decide)]; exact mm_wr_s
      · rw [mm_wr_k (by decide)]; rw [mm_wr_k (by decide)]; rw [mm_wr_k (by decide)]; rw [mm_wr_k (by decide)]; exact mm_wr_s
      · rw [mm_wr_k (by decide)]; rw [mm_wr_k (by decide)]; rw [mm_wr_k (by decide)]; exact mm_wr_s
      · rw [mm_wr_k (by decide)]; rw [mm_wr_k (by decide)]; exact mm_wr_s
      · rw [mm_wr_k (by decide)]; exact mm_wr_s
      · exact mm_wr_s
    | succ t ih =>
      intro i I1 hit g1 g2
      obtain ⟨al, aL⟩ := alots i (by omega)
      obtain ⟨bl, bL⟩ := blots i (by omega)
      have aLk : (S.2.1 (a + 7 + 6 * i)).1 = 4 := aL.1
      have hbl : lot_at I1 (b + 7 + 6 * i) s i := lot_at_I (fun c c1 c2 => g2 c (by omega)) (hs.2.2.2.2 i (by omega))
      have h01 : I1 (b + 7 + 6 * i) 4 = 0 ∨ I1 (b + 7 + 6 * i) 4 = 1 := by
        rw [hbl.2.2.1]
        by_cases q : s (13 + 20 * i) = 0
        · exact Or.inl q
        · exact Or.inr (lot_13 hi (by omega) q).1
      refine mm_iload_n dX2_copyEstate_2 rfl rfl ?_
      refine mm_aload_n dX2_copyEstate_3 rfl rfl ?_
      refine mm_getR dX2_copyEstate_4 fl_X2_11 rfl (by assumption) (by assumption) ?_
      refine mm_alen (t := 1) dX2_copyEstate_7 (by assumption) (by decide) 6 rfl ?_
      refine mm_icmp_ge 56 dX2_copyEstate_8 (by decide) (fun c_8 => absurd c_8 (nI_ge (b := 6) (by omega) (by omega))) (fun c_8 => ?_)
      refine mm_iload_n dX2_copyEstate_11 rfl rfl ?_
      refine mm_aload_n dX2_copyEstate_12 rfl rfl ?_
      refine mm_getR dX2_copyEstate_13 fl_X2_11 rfl (by assumption) (by assumption) ?_
      refine mm_alen (t := 1) dX2_copyEstate_16 (by assumption) (by decide) 6 rfl ?_
      refine mm_icmp_ge 56 dX2_copyEstate_17 (by decide) (fun c_17 => absurd c_17 (nI_ge (b := 6) (by omega) (by omega))) (fun c_17 => ?_)
      refine mm_aload_n dX2_copyEstate_20 rfl rfl ?_
      refine mm_getR dX2_copyEstate_21 fl_X2_11 rfl (by assumption) (by assumption) ?_
      refine mm_iload_n dX2_copyEstate_24 rfl rfl ?_
      refine mm_aald (t := 0) (b + 7 + 6 * i) dX2_copyEstate_25 (by assumption) (by decide) (vp_in_nI (n := i) (by omega) (by omega)) (by rw [nI_clamp (by omega)]; exact bl) ?_
      refine mm_astore_n dX2_copyEstate_26 rfl (Nat.le_of_ble_eq_true rfl) ?_
      refine mm_aload_n dX2_copyEstate_27 rfl rfl ?_
      refine mm_getR dX2_copyEstate_28 fl_X2_11 rfl (by assumption) (by assumption) ?_
      refine mm_iload_n dX2_copyEstate_31 rfl rfl ?_
      refine mm_aald (t := 0) (a + 7 + 6 * i) dX2_copyEstate_32 (by assumption) (by decide) (vp_in_nI (n := i) (by omega) (by omega)) (by rw [nI_clamp (by omega)]; exact al) ?_
      refine mm_astore dX2_copyEstate_33 (Nat.le_of_ble_eq_true rfl) ?_
      refine mm_aload_n dX2_copyEstate_35 rfl rfl ?_
      refine mm_ifnull dX2_copyEstate_36 ?_
      refine mm_aload dX2_copyEstate_39 rfl ?_
      refine mm_ifnull dX2_copyEstate_41 ?_
      refine mm_aload dX2_copyEstate_44 rfl ?_
      refine mm_aload_n dX2_copyEstate_46 rfl rfl ?_
      refine mm_Vv (N := mX4_copyLot) (ci := 4) (as := [_]) dX2_copyEstate_47 lk_X2_43 okX4_copyLot (by decide) rfl (by decide) rfl (by assumption) rfl (by decide) (c_copyLot aL bL (by omega) h01) (fun J1 hq => ?_)
      obtain ⟨hq1, hq2⟩ := hq
      refine mm_iinc 1 dX2_copyEstate_50 rfl rfl (Nat.le_of_ble_eq_true rfl) ?_
      rw [nI_1]
      refine mm_goto 2 dX2_copyEstate_53 (by decide) ?_
      exact mm_G.at (ih (i + 1) J1 (by omega) (fun l hl => if e1 : l = i then by subst e1; exact lot_leq hq1 hbl else lot_at_I (fun c c1 c2 => hq2 c (by omega)) (g1 l (by omega))) (fun c hc => (hq2 c (by omega)).trans (g2 c (by omega)))) (mm_s1 rfl (mm_s1 rfl (mm_s1 rfl mm_s0)))
  refine mm_iconst 0 dX2_copyEstate_0 rfl ?_
  refine mm_istore_n dX2_copyEstate_1 rfl (Nat.le_of_ble_eq_true rfl) ?_
  exact mm_G.at (loop 6 0 I (by omega) (fun l hl => absurd hl (Nat.not_lt_zero l)) (fun _ _ => rfl)) (mm_s1 rfl (mm_s1 rfl (mm_s1 rfl mm_s0)))
