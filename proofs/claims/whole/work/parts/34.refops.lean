/-! THE REFERENCE'S OPERATIONS do what the spec says -/
def r_Q (m n : Nat) (hs : Nat → Nat → Int32) (I : mm_I) (x : sp_T) : Int32 → mm_I → Prop := fun q J => q = x.1 ∧ J (m + 1) = x.2 ∧ r_op m n hs (0 ≤ x.1) I J
theorem r_Q_err {m n : Nat} {hs : Nat → Nat → Int32} {I : mm_I} {x : sp_T} {e : Int32} (h : x = (e, I (m + 1))) (he : ¬ 0 ≤ e) : r_Q m n hs I x e I := by
  subst h
  exact ⟨rfl, rfl, r_op.no he⟩
theorem r_Q_erf {m n : Nat} {hs : Nat → Nat → Int32} {I J : mm_I} {x : sp_T} {e : Int32} (h : x = (e, I (m + 1))) (he : ¬ 0 ≤ e) (g : r_fr I J m) : r_Q m n hs I x e J := by
  subst h
  exact ⟨rfl, g.s, r_op.fr he g⟩
def w_sub (w : Nat → Nat) (b : Nat) : Nat → Nat := fun k => if k = b then w b - 10 else w k
theorem w_sub_s {w : Nat → Nat} {b : Nat} : w_sub w b b = w b - 10 := if_pos rfl
theorem w_sub_n {w : Nat → Nat} {b k : Nat} (h : k ≠ b) : w_sub w b k = w k := if_neg h
theorem w_sip_n {w : Nat → Nat} {b : Nat} (h : ¬ w b = 10) : w_sip w b = w_sub w b := by
  unfold w_sip w_sub
  rw [if_neg h]
  funext k
  by_cases e : k = b
  · subst e; rw [if_pos rfl]
  · rw [if_neg e, if_neg e]
theorem w_sip_y {w : Nat → Nat} {b : Nat} (h : w b = 10) : w_sip w b = w_del w b := if_pos h
theorem w_del_sub {w : Nat → Nat} {b : Nat} : w_del (w_sub w b) b = w_del w b := by
  funext k
  unfold w_del
  by_cases h : k < b
  · rw [if_pos h, if_pos h, w_sub_n (by omega)]
  · rw [if_neg h, if_neg h, w_sub_n (by omega)]
theorem if_yes {c : Prop} [Decidable c] (h : ¬ (if c then (1 : Int32) else 0) = 0) : c := Classical.byContradiction fun q => h (if_neg q)
theorem if_no {c : Prop} [Decidable c] (h : (if c then (1 : Int32) else 0) = 0) : ¬ c := fun q => by rw [if_pos q] at h; exact absurd h (by decide)

set_option maxRecDepth 100000 in
set_option maxHeartbeats 4000000 in
theorem r_lot {S : mm_S} {I : mm_I} {m n : Nat} {hs : Nat → Nat → Int32} {b r : Int32} (hM : mm_ref S m) (hi : Inv (I (m + 1))) (hh : I m 4 = 0 → hist_r I m n hs) : mm_ci mX8_lot [.ref m, .int b, .int r] S I (r_Q m n hs I (sp_lot (I (m + 1)) b r)) := by
  have hM0 := hM
  obtain ⟨hk, hp0, hp1, hp2, hp5, hp7, hp15, hk1, hk2, hk3, hk4, hk5, hk6⟩ := hM
  have hx : ∀ n, n < 316 → vp_in (nI n) 316 := fun n h => vp_in_nI h (by omega)
  have hL := hi.1.1
  generalize hLd : sv (I (m + 1)) 0 = L at hL
  refine mm_ci.of okX8_lot rfl (Nat.le_of_ble_eq_true rfl) (lv := [(0, .ref m), (1, .int b), (2, .int r)]) rfl ?_
  refine mm_iload_n dX8_lot_0 rfl rfl ?_
  refine mm_iconst 1 dX8_lot_1 rfl ?_
  refine mm_bipush 12 dX8_lot_2 rfl ?_
  refine mm_Si (N := mX8_in) (as := [_, _, _]) dX8_lot_4 lk_X8_72 okX8_in (by decide) rfl rfl (by decide) r_in (fun r1 J1 hq => ?_)
  obtain ⟨rfl, hJ⟩ := hq
  subst J1
  refine mm_if_eq 20 dX8_lot_7 (by decide) (fun c_7 => ?_) (fun c_7 => ?_)
  · skip
    have n1 := if_no c_7
    refine mm_ldc dX8_lot_20 ct_X8_76 ?_
    refine mm_iret dX8_lot_22 rfl ?_
    first
      | exact ⟨rfl, _, rfl, r_Q_err (if_pos (fun q => n1 q.1)) (by decide)⟩
      | exact ⟨rfl, _, rfl, r_Q_err (if_pos (fun q => n2 q.2)) (by decide)⟩
  · skip
    have y1 := if_yes c_7
    refine mm_iload_n dX8_lot_10 rfl rfl ?_
    refine mm_iconst 0 dX8_lot_11 rfl ?_
    refine mm_bipush 50 dX8_lot_12 rfl ?_
    refine mm_Si (N := mX8_in) (as := [_, _, _]) dX8_lot_14 lk_X8_72 okX8_in (by decide) rfl rfl (by decide) r_in (fun r2 J1 hq => ?_)
    obtain ⟨rfl, hJ⟩ := hq
    subst J1
    refine mm_if_ne 23 dX8_lot_17 (by decide) (fun c_17 => ?_) (fun c_17 => ?_)
    · skip
      have y2 := if_yes c_17
      refine mm_aload_n dX8_lot_23 rfl rfl ?_
      refine mm_getR dX8_lot_24 fl_X8_7 rfl (by assumption) (by assumption) ?_
      refine mm_iconst 0 dX8_lot_27 rfl ?_
      refine mm_iald dX8_lot_28 (by assumption) (hx 0 (by omega)) ?_
      refine mm_tope (y := nI L) hL.1 ?_
      refine mm_istore_n dX8_lot_29 rfl (Nat.le_of_ble_eq_true rfl) ?_
      refine mm_iload_n dX8_lot_30 rfl rfl ?_
      refine mm_bipush 6 dX8_lot_31 rfl ?_
      refine mm_icmp_ne 39 dX8_lot_33 (by decide) (fun c_33 => ?_) (fun c_33 => ?_)
      · skip
        have hne : ¬ I (m + 1) 0 = 6 := by rw [hL.1]; exact c_33
        have hL6 : L < 6 := by
          rcases Nat.lt_or_ge L 6 with e | e
          · exact e
          · exact absurd (by rw [show L = 6 by omega]; rfl) c_33
        refine mm_aload_n dX8_lot_39 rfl rfl ?_
        refine mm_Vv (N := mX8_changes) (ci := 8) (as := []) dX8_lot_40 lk_X8_78 okX8_changes (by decide) rfl (by decide) rfl (by assumption) rfl (by decide) (r_changes hM0 hh) (fun J1 hc => ?_)
        have hs1 := hc.s
        have hsp : sp_lot (I (m + 1)) b r = (I (m + 1) 0, upd (fun j => if 17 + 20 * L ≤ j ∧ j < 17 + 20 * L + b.toNatClampNeg then 2250 else upd (upd (I (m + 1)) (9 + 20 * L) b) (10 + 20 * L) r j) 0 (nI (L + 1))) := by unfold sp_lot; rw [if_neg (fun q => q ⟨y1, y2⟩), if_neg hne, hLd]
        obtain ⟨B, hB1, hB12, rfl, hBc⟩ := int_p (n := 12) rfl (by omega) y1
        rw [hBc] at hsp
        have loop : ∀ (t i : Nat) (I2 : mm_I), i + t = B → (∀ j, I2 (m + 1) j = if 17 + 20 * L ≤ j ∧ j < 17 + 20 * L + i then 2250 else upd (upd (I (m + 1)) (9 + 20 * L) (nI B)) (10 + 20 * L) r j) → (∀ c, c ≠ m + 1 → I2 c = J1 c) → mm_Gi mX8_lot (r_Q m n hs I (sp_lot (I (m + 1)) (nI B) r)) 76 [(4, .int (nI i)), (3, .int (nI L)), (0, .ref m), (1, .int (nI B))] [] S S I2 := by
          intro t
          induction t with
          | zero =>
            intro i I2 hiB g1 g2
            have hiB : i = B := by omega
            subst hiB
            have g0 : I2 (m + 1) 0 = nI L := by rw [g1 0, if_neg (by omega)]; show upd _ _ _ 0 = _; unfold upd; rw [if_neg (by omega), if_neg (by omega)]; exact hL.1
            refine mm_iload dX8_lot_76 rfl ?_
            refine mm_iload_n dX8_lot_78 rfl rfl ?_
            refine mm_icmp_ge 109 dX8_lot_79 (by decide) (fun c_79 => ?_) (fun c_79 => absurd (nI_le (by omega) (by omega)) c_79)
            refine mm_aload_n dX8_lot_109 rfl rfl ?_
            refine mm_getR dX8_lot_110 fl_X8_7 rfl (by assumption) (by assumption) ?_
            refine mm_iconst 0 dX8_lot_113 rfl ?_
            refine mm_dup2 dX8_lot_114 rfl rfl ?_
            refine mm_iald dX8_lot_115 (by assumption) (hx 0 (by omega)) ?_
            refine mm_tope (y := nI L) g0 ?_
            refine mm_iconst 1 dX8_lot_116 rfl ?_
            refine mm_iadd dX8_lot_117 ?_
            refine mm_tope (y := nI (L + 1)) (nI_1 L) ?_
            refine mm_iast dX8_lot_118 (by assumption) (hx 0 (by omega)) ?_
            refine mm_iload_n dX8_lot_119 rfl rfl ?_
            refine mm_iret dX8_lot_120 rfl ?_
            refine ⟨rfl, _, rfl, ?_⟩
            rw [hsp]
            exact ⟨hL.1.symm, by rw [mm_wr_upd]; show upd _ 0 _ = upd _ 0 _; congr 1; funext j; exact g1 j, r_op.yes (by rw [hL.1]; exact nI_pos' (by omega)) r_fr.rf hc (fun c q1 q2 q3 => by rw [mm_wr_row q2]; exact g2 c q2) (fun j hj => by rw [mm_wr_a (by omega), g2 m (by omega)])⟩
          | succ t ih =>
            intro i I2 hiB g1 g2
            have hin := hx (9 + 20 * L + 8 + i) (by omega)
            refine mm_iload dX8_lot_76 rfl ?_
            refine mm_iload_n dX8_lot_78 rfl rfl ?_
            refine mm_icmp_ge 109 dX8_lot_79 (by decide) (fun c_79 => absurd c_79 (nI_ge (by omega) (by omega))) (fun c_79 => ?_)
            refine mm_aload_n dX8_lot_82 rfl rfl ?_
            refine mm_getR dX8_lot_83 fl_X8_7 rfl (by assumption) (by assumption) ?_
            refine mm_bipush 9 dX8_lot_86 rfl ?_
            refine mm_bipush 20 dX8_lot_88 rfl ?_
            refine mm_iload_n dX8_lot_90 rfl rfl ?_
            refine mm_imul dX8_lot_91 ?_
            refine mm_tope (y := nI (20 * L)) (pk_mul 20 L) ?_
            refine mm_iadd dX8_lot_92 ?_
            refine mm_tope (y := nI (9 + 20 * L)) (nI_add 9 _) ?_
            refine mm_bipush 8 dX8_lot_93 rfl ?_
            refine mm_iadd dX8_lot_95 ?_
            refine mm_tope (y := nI (9 + 20 * L + 8)) (nI_add _ 8) ?_
            refine mm_iload dX8_lot_96 rfl ?_
            refine mm_iadd dX8_lot_98 ?_
            refine mm_tope (y := nI (9 + 20 * L + 8 + i)) (nI_add _ _) ?_
            refine mm_sipush 2250 dX8_lot_99 rfl ?_
            refine mm_iast dX8_lot_102 (by assumption) (by assumption) ?_
            rw [nI_clamp (by omega)]
            refine mm_iinc 1 dX8_lot_103 rfl rfl (Nat.le_of_ble_eq_true rfl) ?_
            rw [nI_1]
            refine mm_goto 76 dX8_lot_106 (by decide) ?_
            exact mm_G.at (ih (i + 1) _ (by omega) (fun j => by
                    by_cases e : j = 9 + 20 * L + 8 + i
                    · subst e; rw [mm_wr_s, if_pos (by omega)]
                    · rw [mm_wr_k e, g1 j]
                      by_cases e3 : 17 + 20 * L ≤ j ∧ j < 17 + 20 * L + i
                      · rw [if_pos e3, if_pos (by omega)]
                      · rw [if_neg e3, if_neg (by omega)]) (fun c hc' => by rw [mm_wr_row hc']; exact g2 c hc')) (mm_s1 rfl (mm_s1 rfl (mm_s1 rfl (mm_s1 rfl mm_s0))))
        refine mm_aload_n dX8_lot_43 rfl rfl ?_
        refine mm_getR dX8_lot_44 fl_X8_7 rfl (by assumption) (by assumption) ?_
        refine mm_bipush 9 dX8_lot_47 rfl ?_
        refine mm_bipush 20 dX8_lot_49 rfl ?_
        refine mm_iload_n dX8_lot_51 rfl rfl ?_
        refine mm_imul dX8_lot_52 ?_
        refine mm_tope (y := nI (20 * L)) (pk_mul 20 L) ?_
        refine mm_iadd dX8_lot_53 ?_
        refine mm_tope (y := nI (9 + 20 * L)) (nI_add 9 _) ?_
        refine mm_iconst 0 dX8_lot_54 rfl ?_
        refine mm_iadd dX8_lot_55 ?_
        refine mm_tope (y := nI (9 + 20 * L)) ((nI_add (9 + 20 * L) 0).trans (congrArg nI (by omega))) ?_
        refine mm_iload_n dX8_lot_56 rfl rfl ?_
        refine mm_iast dX8_lot_57 (by assumption) (hx (9 + 20 * L) (by omega)) ?_
        rw [nI_clamp (by omega)]
        refine mm_aload_n dX8_lot_58 rfl rfl ?_
        refine mm_getR dX8_lot_59 fl_X8_7 rfl (by assumption) (by assumption) ?_
        refine mm_bipush 9 dX8_lot_62 rfl ?_
        refine mm_bipush 20 dX8_lot_64 rfl ?_
        refine mm_iload_n dX8_lot_66 rfl rfl ?_
        refine mm_imul dX8_lot_67 ?_
        refine mm_tope (y := nI (20 * L)) (pk_mul 20 L) ?_
        refine mm_iadd dX8_lot_68 ?_
        refine mm_tope (y := nI (9 + 20 * L)) (nI_add 9 _) ?_
        refine mm_iconst 1 dX8_lot_69 rfl ?_
        refine mm_iadd dX8_lot_70 ?_
        refine mm_tope (y := nI (10 + 20 * L)) ((nI_add (9 + 20 * L) 1).trans (congrArg nI (by omega))) ?_
        refine mm_iload_n dX8_lot_71 rfl rfl ?_
        refine mm_iast dX8_lot_72 (by assumption) (hx (10 + 20 * L) (by omega)) ?_
        rw [nI_clamp (by omega)]
        refine mm_iconst 0 dX8_lot_73 rfl ?_
        refine mm_istore dX8_lot_74 (Nat.le_of_ble_eq_true rfl) ?_
        exact mm_G.at (loop B 0 _ (by omega) (fun j => by
                  rw [if_neg (by omega), mm_wr_upd, mm_wr_upd, hs1]) (fun c hc' => by rw [mm_wr_row hc', mm_wr_row hc'])) (mm_s1 rfl (mm_s1 rfl (mm_s1 rfl (mm_s1 rfl mm_s0))))
      · skip
        have he : I (m + 1) 0 = 6 := by rw [hL.1]; exact c_33
        refine mm_ldc dX8_lot_36 ct_X8_77 ?_
        refine mm_iret dX8_lot_38 rfl ?_
        exact ⟨rfl, _, rfl, r_Q_err (by unfold sp_lot; rw [if_neg (fun q => q ⟨y1, y2⟩), if_pos he]) (by decide)⟩
    · skip
      have n2 := if_no c_17
      refine mm_ldc dX8_lot_20 ct_X8_76 ?_
      refine mm_iret dX8_lot_22 rfl ?_
      first
        | exact ⟨rfl, _, rfl, r_Q_err (if_pos (fun q => n1 q.1)) (by decide)⟩
        | exact ⟨rfl, _, rfl, r_Q_err (if_pos (fun q => n2 q.2)) (by decide)⟩
set_option maxRecDepth 100000 in
set_option maxHeartbeats 4000000 in
theorem r_buyer {S : mm_S} {I : mm_I} {m n : Nat} {hs : Nat → Nat → Int32} (hM : mm_ref S m) (hi : Inv (I (m + 1))) (hh : I m 4 = 0 → hist_r I m n hs) : mm_ci mX8_buyer [.ref m] S I (r_Q m n hs I (sp_buyer (I (m + 1)))) := by
  have hM0 := hM
  obtain ⟨hk, hp0, hp1, hp2, hp5, hp7, hp15, hk1, hk2, hk3, hk4, hk5, hk6⟩ := hM
  have hx : ∀ n, n < 316 → vp_in (nI n) 316 := fun n h => vp_in_nI h (by omega)
  have hL := hi.1.2.1
  generalize hLd : sv (I (m + 1)) 1 = L at hL
  refine mm_ci.of okX8_buyer rfl (Nat.le_of_ble_eq_true rfl) (lv := [(0, .ref m)]) rfl ?_
  refine mm_aload_n dX8_buyer_0 rfl rfl ?_
  refine mm_getR dX8_buyer_1 fl_X8_7 rfl (by assumption) (by assumption) ?_
  refine mm_iconst 1 dX8_buyer_4 rfl ?_
  refine mm_iald dX8_buyer_5 (by assumption) (hx 1 (by omega)) ?_
  refine mm_tope (y := nI L) hL.1 ?_
  refine mm_bipush 6 dX8_buyer_6 rfl ?_
  refine mm_icmp_ne 14 dX8_buyer_8 (by decide) (fun c_8 => ?_) (fun c_8 => ?_)
  · skip
    have hne : ¬ I (m + 1) 1 = 6 := by rw [hL.1]; exact c_8
    refine mm_aload_n dX8_buyer_14 rfl rfl ?_
    refine mm_Vv (N := mX8_changes) (ci := 8) (as := []) dX8_buyer_15 lk_X8_78 okX8_changes (by decide) rfl (by decide) rfl (by assumption) rfl (by decide) (r_changes hM0 hh) (fun J1 hc => ?_)
    have hs1 := hc.s
    refine mm_aload_n dX8_buyer_18 rfl rfl ?_
    refine mm_getR dX8_buyer_19 fl_X8_7 rfl (by assumption) (by assumption) ?_
    refine mm_iconst 1 dX8_buyer_22 rfl ?_
    refine mm_dup2 dX8_buyer_23 rfl rfl ?_
    refine mm_iald dX8_buyer_24 (by assumption) (hx 1 (by omega)) ?_
    refine mm_tope (y := nI L) (by rw [hs1]; exact hL.1) ?_
    refine mm_iconst 1 dX8_buyer_25 rfl ?_
    refine mm_iadd dX8_buyer_26 ?_
    refine mm_tope (y := nI (L + 1)) (nI_1 L) ?_
    refine mm_iast dX8_buyer_27 (by assumption) (hx 1 (by omega)) ?_
    rw [show (1 : Int32).toNatClampNeg = 1 from rfl]
    refine mm_aload_n dX8_buyer_28 rfl rfl ?_
    refine mm_getR dX8_buyer_29 fl_X8_7 rfl (by assumption) (by assumption) ?_
    refine mm_iconst 1 dX8_buyer_32 rfl ?_
    refine mm_iald dX8_buyer_33 (by assumption) (hx 1 (by omega)) ?_
    refine mm_tope (y := nI (L + 1)) mm_wr_s ?_
    refine mm_iconst 1 dX8_buyer_34 rfl ?_
    refine mm_isub dX8_buyer_35 ?_
    refine mm_tope (y := nI L) (nI_pred L) ?_
    refine mm_iret dX8_buyer_36 rfl ?_
    refine ⟨rfl, _, rfl, ?_⟩
    rw [show sp_buyer (I (m + 1)) = (I (m + 1) 1, upd (I (m + 1)) 1 (nI (L + 1))) by unfold sp_buyer; rw [if_neg hne, hLd]]
    exact ⟨hL.1.symm, by rw [mm_wr_upd, hs1], r_op.yes (by rw [hL.1]; exact nI_pos' (by omega)) r_fr.rf hc (fun c q1 q2 q3 => mm_wr_row q2) (fun j hj => mm_wr_a (by omega))⟩
  · skip
    have he : I (m + 1) 1 = 6 := by rw [hL.1]; exact c_8
    refine mm_ldc dX8_buyer_11 ct_X8_77 ?_
    refine mm_iret dX8_buyer_13 rfl ?_
    exact ⟨rfl, _, rfl, r_Q_err (if_pos he) (by decide)⟩
set_option maxRecDepth 100000 in
set_option maxHeartbeats 4000000 in
theorem r_set {S : mm_S} {I : mm_I} {m n : Nat} {hs : Nat → Nat → Int32} {w v : Int32} (hM : mm_ref S m) (hi : Inv (I (m + 1))) (hh : I m 4 = 0 → hist_r I m n hs) : mm_ci mX8_set [.ref m, .int w, .int v] S I (r_Q m n hs I (sp_set (I (m + 1)) w v)) := by
  have hM0 := hM
  obtain ⟨hk, hp0, hp1, hp2, hp5, hp7, hp15, hk1, hk2, hk3, hk4, hk5, hk6⟩ := hM
  have hx : ∀ n, n < 316 → vp_in (nI n) 316 := fun n h => vp_in_nI h (by omega)
  have h7 := hi.1.2.2.2.2.1
  have h8 := hi.1.2.2.2.2.2
  refine mm_ci.of okX8_set rfl (Nat.le_of_ble_eq_true rfl) (lv := [(0, .ref m), (1, .int w), (2, .int v)]) rfl ?_
  refine mm_iload_n dX8_set_0 rfl rfl ?_
  refine mm_iconst 0 dX8_set_1 rfl ?_
  refine mm_iconst 1 dX8_set_2 rfl ?_
  refine mm_Si (N := mX8_in) (as := [_, _, _]) dX8_set_3 lk_X8_72 okX8_in (by decide) rfl rfl (by decide) r_in (fun r1 J1 hq => ?_)
  obtain ⟨rfl, hJ⟩ := hq
  subst J1
  refine mm_if_eq 28 dX8_set_6 (by decide) (fun c_6 => ?_) (fun c_6 => ?_)
  · skip
    have n1 := if_no c_6
    refine mm_ldc dX8_set_28 ct_X8_76 ?_
    refine mm_iret dX8_set_30 rfl ?_
    first
      | exact ⟨rfl, _, rfl, r_Q_err (if_pos (fun q => n1 q.1)) (by decide)⟩
      | exact ⟨rfl, _, rfl, r_Q_err (if_pos (fun q => n2 q.2)) (by decide)⟩
  · skip
    have y1 := if_yes c_6
    refine mm_iload_n dX8_set_9 rfl rfl ?_
    refine mm_iconst 0 dX8_set_10 rfl ?_
    refine mm_iload_n dX8_set_11 rfl rfl ?_
    refine mm_if_ne 20 dX8_set_12 (by decide) (fun c_12 => ?_) (fun c_12 => ?_)
    · skip
      have e9 : (if w = 0 then (100 : Int32) else 36) = 36 := if_neg c_12
      refine mm_bipush 36 dX8_set_20 rfl ?_
      refine mm_Si (N := mX8_in) (as := [_, _, _]) dX8_set_22 lk_X8_72 okX8_in (by decide) rfl rfl (by decide) r_in (fun r2 J1 hq => ?_)
      obtain ⟨rfl, hJ⟩ := hq
      subst J1
      refine mm_if_ne 31 dX8_set_25 (by decide) (fun c_25 => ?_) (fun c_25 => ?_)
      · skip
        have y2 := if_yes c_25
        rw [← e9] at y2
        refine mm_aload_n dX8_set_31 rfl rfl ?_
        refine mm_Vv (N := mX8_changes) (ci := 8) (as := []) dX8_set_32 lk_X8_78 okX8_changes (by decide) rfl (by decide) rfl (by assumption) rfl (by decide) (r_changes hM0 hh) (fun J1 hc => ?_)
        have hs1 := hc.s
        have hsp : sp_set (I (m + 1)) w v = (I (m + 1) (7 + w.toNatClampNeg), upd (I (m + 1)) (7 + w.toNatClampNeg) v) := by unfold sp_set; rw [if_neg (fun q => q ⟨y1, y2⟩)]
        have hpos : 0 ≤ I (m + 1) (7 + w.toNatClampNeg) := by
          obtain ⟨W, hW, rfl, hWc⟩ := int_n (n := 1) rfl (by omega) y1
          rw [hWc]
          rcases (show W = 0 ∨ W = 1 by omega) with rfl | rfl
          · rw [h7.1]; exact nI_pos' (by omega)
          · rw [h8.1]; exact nI_pos' (by omega)
        obtain ⟨W, hW, rfl, hWc⟩ := int_n (n := 1) rfl (by omega) y1
        rw [hWc] at hsp hpos
        refine mm_aload_n dX8_set_35 rfl rfl ?_
        refine mm_getR dX8_set_36 fl_X8_7 rfl (by assumption) (by assumption) ?_
        refine mm_bipush 7 dX8_set_39 rfl ?_
        refine mm_iload_n dX8_set_41 rfl rfl ?_
        refine mm_iadd dX8_set_42 ?_
        refine mm_tope (y := nI (7 + W)) (nI_add 7 W) ?_
        refine mm_iald dX8_set_43 (by assumption) (hx (7 + W) (by omega)) ?_
        rw [nI_clamp (by omega), hs1]
        refine mm_istore_n dX8_set_44 rfl (Nat.le_of_ble_eq_true rfl) ?_
        refine mm_aload_n dX8_set_45 rfl rfl ?_
        refine mm_getR dX8_set_46 fl_X8_7 rfl (by assumption) (by assumption) ?_
        refine mm_bipush 7 dX8_set_49 rfl ?_
        refine mm_iload_n dX8_set_51 rfl rfl ?_
        refine mm_iadd dX8_set_52 ?_
        refine mm_tope (y := nI (7 + W)) (nI_add 7 W) ?_
        refine mm_iload_n dX8_set_53 rfl rfl ?_
        refine mm_iast dX8_set_54 (by assumption) (hx (7 + W) (by omega)) ?_
        rw [nI_clamp (by omega)]
        refine mm_iload_n dX8_set_55 rfl rfl ?_
        refine mm_iret dX8_set_56 rfl ?_
        refine ⟨rfl, _, rfl, ?_⟩
        rw [hsp]
        exact ⟨rfl, by rw [mm_wr_upd, hs1], r_op.yes hpos r_fr.rf hc (fun c q1 q2 q3 => mm_wr_row q2) (fun j hj => mm_wr_a (by omega))⟩
      · skip
        have n2 := if_no c_25
        rw [← e9] at n2
        refine mm_ldc dX8_set_28 ct_X8_76 ?_
        refine mm_iret dX8_set_30 rfl ?_
        first
          | exact ⟨rfl, _, rfl, r_Q_err (if_pos (fun q => n1 q.1)) (by decide)⟩
          | exact ⟨rfl, _, rfl, r_Q_err (if_pos (fun q => n2 q.2)) (by decide)⟩
    · skip
      have e9 : (if w = 0 then (100 : Int32) else 36) = 100 := if_pos c_12
      refine mm_bipush 100 dX8_set_15 rfl ?_
      refine mm_goto 22 dX8_set_17 (by decide) ?_
      refine mm_Si (N := mX8_in) (as := [_, _, _]) dX8_set_22 lk_X8_72 okX8_in (by decide) rfl rfl (by decide) r_in (fun r2 J1 hq => ?_)
      obtain ⟨rfl, hJ⟩ := hq
      subst J1
      refine mm_if_ne 31 dX8_set_25 (by decide) (fun c_25 => ?_) (fun c_25 => ?_)
      · skip
        have y2 := if_yes c_25
        rw [← e9] at y2
        refine mm_aload_n dX8_set_31 rfl rfl ?_
        refine mm_Vv (N := mX8_changes) (ci := 8) (as := []) dX8_set_32 lk_X8_78 okX8_changes (by decide) rfl (by decide) rfl (by assumption) rfl (by decide) (r_changes hM0 hh) (fun J1 hc => ?_)
        have hs1 := hc.s
        have hsp : sp_set (I (m + 1)) w v = (I (m + 1) (7 + w.toNatClampNeg), upd (I (m + 1)) (7 + w.toNatClampNeg) v) := by unfold sp_set; rw [if_neg (fun q => q ⟨y1, y2⟩)]
        have hpos : 0 ≤ I (m + 1) (7 + w.toNatClampNeg) := by
          obtain ⟨W, hW, rfl, hWc⟩ := int_n (n := 1) rfl (by omega) y1
          rw [hWc]
          rcases (show W = 0 ∨ W = 1 by omega) with rfl | rfl
          · rw [h7.1]; exact nI_pos' (by omega)
          · rw [h8.1]; exact nI_pos' (by omega)
        obtain ⟨W, hW, rfl, hWc⟩ := int_n (n := 1) rfl (by omega) y1
        rw [hWc] at hsp hpos
        refine mm_aload_n dX8_set_35 rfl rfl ?_
        refine mm_getR dX8_set_36 fl_X8_7 rfl (by assumption) (by assumption) ?_
        refine mm_bipush 7 dX8_set_39 rfl ?_
        refine mm_iload_n dX8_set_41 rfl rfl ?_
        refine mm_iadd dX8_set_42 ?_
        refine mm_tope (y := nI (7 + W)) (nI_add 7 W) ?_
        refine mm_iald dX8_set_43 (by assumption) (hx (7 + W) (by omega)) ?_
        rw [nI_clamp (by omega), hs1]
        refine mm_istore_n dX8_set_44 rfl (Nat.le_of_ble_eq_true rfl) ?_
        refine mm_aload_n dX8_set_45 rfl rfl ?_
        refine mm_getR dX8_set_46 fl_X8_7 rfl (by assumption) (by assumption) ?_
        refine mm_bipush 7 dX8_set_49 rfl ?_
        refine mm_iload_n dX8_set_51 rfl rfl ?_
        refine mm_iadd dX8_set_52 ?_
        refine mm_tope (y := nI (7 + W)) (nI_add 7 W) ?_
        refine mm_iload_n dX8_set_53 rfl rfl ?_
        refine mm_iast dX8_set_54 (by assumption) (hx (7 + W) (by omega)) ?_
        rw [nI_clamp (by omega)]
        refine mm_iload_n dX8_set_55 rfl rfl ?_
        refine mm_iret dX8_set_56 rfl ?_
        refine ⟨rfl, _, rfl, ?_⟩
        rw [hsp]
        exact ⟨rfl, by rw [mm_wr_upd, hs1], r_op.yes hpos r_fr.rf hc (fun c q1 q2 q3 => mm_wr_row q2) (fun j hj => mm_wr_a (by omega))⟩
      · skip
        have n2 := if_no c_25
        rw [← e9] at n2
        refine mm_ldc dX8_set_28 ct_X8_76 ?_
        refine mm_iret dX8_set_30 rfl ?_
        first
          | exact ⟨rfl, _, rfl, r_Q_err (if_pos (fun q => n1 q.1)) (by decide)⟩
          | exact ⟨rfl, _, rfl, r_Q_err (if_pos (fun q => n2 q.2)) (by decide)⟩
theorem inv_load {S : mm_S} {I : mm_I} {m l : Nat} (hM : mm_ref S m) (hi : Inv (I (m + 1))) (hl : l < 6) : mm_cv mX8_loads [.ref m, .int (nI l)] S I (fun J => rw_at J m (sv (I (m + 1)) (9 + 20 * l)) (sw (I (m + 1)) l) ∧ r_fr I J m) := by
  have h := hi.2.1 l hl
  exact r_loads hM hl (h.1 0 (by omega)) h.2.1.1 (fun k hk => inv_w h hk)
set_option maxRecDepth 100000 in
set_option maxHeartbeats 4000000 in
theorem r_taste {S : mm_S} {I : mm_I} {m n : Nat} {hs : Nat → Nat → Int32} {l c : Int32} (hM : mm_ref S m) (hi : Inv (I (m + 1))) (hh : I m 4 = 0 → hist_r I m n hs) : mm_ci mX8_taste [.ref m, .int l, .int c] S I (r_Q m n hs I (sp_taste (I (m + 1)) l c)) := by
  have hM0 := hM
  obtain ⟨hk, hp0, hp1, hp2, hp5, hp7, hp15, hk1, hk2, hk3, hk4, hk5, hk6⟩ := hM
  have hx : ∀ n, n < 316 → vp_in (nI n) 316 := fun n h => vp_in_nI h (by omega)
  refine mm_ci.of okX8_taste rfl (Nat.le_of_ble_eq_true rfl) (lv := [(0, .ref m), (1, .int l), (2, .int c)]) rfl ?_
  refine mm_aload_n dX8_taste_0 rfl rfl ?_
  refine mm_iload_n dX8_taste_1 rfl rfl ?_
  refine mm_Vi (N := mX8_isLot) (ci := 8) (as := [_]) dX8_taste_2 lk_X8_81 okX8_isLot (by decide) rfl (by decide) rfl (by assumption) rfl (by decide) (r_isLot hM0) (fun r1 J1 hq => ?_)
  obtain ⟨rfl, hJ⟩ := hq
  subst J1
  refine mm_if_eq 18 dX8_taste_5 (by decide) (fun c_5 => ?_) (fun c_5 => ?_)
  · skip
    have n1 := if_no c_5
    refine mm_ldc dX8_taste_18 ct_X8_76 ?_
    refine mm_iret dX8_taste_20 rfl ?_
    first
      | exact ⟨rfl, _, rfl, r_Q_err (if_pos (fun q => n1 q.1)) (by decide)⟩
      | exact ⟨rfl, _, rfl, r_Q_err (if_pos (fun q => n2 q.2)) (by decide)⟩
  · skip
    have y1 := if_yes c_5
    refine mm_iload_n dX8_taste_8 rfl rfl ?_
    refine mm_iconst 0 dX8_taste_9 rfl ?_
    refine mm_bipush 100 dX8_taste_10 rfl ?_
    refine mm_Si (N := mX8_in) (as := [_, _, _]) dX8_taste_12 lk_X8_72 okX8_in (by decide) rfl rfl (by decide) r_in (fun r2 J1 hq => ?_)
    obtain ⟨rfl, hJ⟩ := hq
    subst J1
    refine mm_if_ne 21 dX8_taste_15 (by decide) (fun c_15 => ?_) (fun c_15 => ?_)
    · skip
      have y2 := if_yes c_15
      obtain ⟨L, hLn, hL6, rfl, hLc⟩ := inv_l hi y1
      obtain ⟨C, hC, rfl, hCc⟩ := int_n (n := 100) rfl (by omega) y2
      have hlt := hi.2.1 L hL6
      have hok := hlt.2.1
      have hsp : sp_taste (I (m + 1)) (nI L) (nI C) = match w_find (fun k => decide (10 ≤ sw (I (m + 1)) L k)) 0 (sv (I (m + 1)) (9 + 20 * L)) with
          | none => (-2000000002, I (m + 1))
          | some b => (nI (w_quote (sv (I (m + 1)) (11 + 20 * L) + C) (sv (I (m + 1)) (12 + 20 * L) + 1)),
              upd (upd (w_lay (I (m + 1)) L (w_sipN (sv (I (m + 1)) (9 + 20 * L)) (sw (I (m + 1)) L) b) (fun k => nI (w_sip (sw (I (m + 1)) L) b k))) (11 + 20 * L) (nI (sv (I (m + 1)) (11 + 20 * L) + C))) (12 + 20 * L) (nI (sv (I (m + 1)) (12 + 20 * L) + 1))) := by
        unfold sp_taste
        rw [if_neg (fun q => q ⟨y1, y2⟩), hLc, hCc]
        rfl
      refine mm_aload_n dX8_taste_21 rfl rfl ?_
      refine mm_iload_n dX8_taste_22 rfl rfl ?_
      refine mm_Vv (N := mX8_loads) (ci := 8) (as := [_]) dX8_taste_23 lk_X8_62 okX8_loads (by decide) rfl (by decide) rfl (by assumption) rfl (by decide) (inv_load hM0 hi hL6) (fun J1 hw1 => ?_)
      obtain ⟨hw1, hf1⟩ := hw1
      have hs1 := hf1.s
      have hb5 := hlt.2.2.2.2.1
      refine mm_aload_n dX8_taste_26 rfl rfl ?_
      refine mm_iload_n dX8_taste_27 rfl rfl ?_
      refine mm_Vi (N := mX8_isOpen) (ci := 8) (as := [_]) dX8_taste_28 lk_X8_85 okX8_isOpen (by decide) rfl (by decide) rfl (by assumption) rfl (by decide) (r_isOpen hM0 hL6) (fun r3 J2 hq => ?_)
      obtain ⟨rfl, hJ⟩ := hq
      subst J2
      refine mm_if_eq 41 dX8_taste_31 (by decide) (fun c_31 => ?_) (fun c_31 => ?_)
      · skip
        have n3 := if_no c_31
        have hn0 : sv (I (m + 1)) (9 + 20 * L) = 0 := by
          apply hb5.2.1
          have e1 := hb5.1
          rcases Nat.eq_zero_or_pos (sv (I (m + 1)) (13 + 20 * L)) with e | e
          · exfalso
            apply n3
            rw [hs1, inv_f hlt 4 (by omega), e]
            rfl
          · omega
        rw [hn0] at hsp
        refine mm_ldc dX8_taste_41 ct_X8_91 ?_
        refine mm_iret dX8_taste_43 rfl ?_
        exact ⟨rfl, _, rfl, r_Q_erf hsp (by decide) hf1⟩
      · skip
        have y3 := if_yes c_31
        refine mm_aload_n dX8_taste_34 rfl rfl ?_
        refine mm_Vi (N := mX8_tasted) (ci := 8) (as := []) dX8_taste_35 lk_X8_88 okX8_tasted (by decide) rfl (by decide) rfl (by assumption) rfl (by decide) (r_tasted hM0 hw1 hok.1 (fun k _ => hok.2.2.1 k)) (fun r4 J2 hq => ?_)
        obtain ⟨rfl, hJ⟩ := hq
        subst J2
        cases hnd : w_find (fun k => decide (10 ≤ sw (I (m + 1)) L k)) 0 (sv (I (m + 1)) (9 + 20 * L)) with
        | none =>
          rw [hnd] at hsp
          refine mm_if_ge 44 dX8_taste_38 (by decide) (fun c_38 => absurd c_38 (by decide)) (fun c_38 => ?_)
          refine mm_ldc dX8_taste_41 ct_X8_91 ?_
          refine mm_iret dX8_taste_43 rfl ?_
          exact ⟨rfl, _, rfl, r_Q_erf hsp (by decide) hf1⟩
        | some b =>
          rw [hnd] at hsp
          obtain ⟨k1, k2, k3, k4⟩ := w_find_some hnd
          have k3 : 10 ≤ sw (I (m + 1)) L b := by simpa using k3
          have hb12 : b < 12 := by have := hok.1; omega
          have hwb := hok.2.2.1 b
          generalize hNd : sv (I (m + 1)) (9 + 20 * L) = N at *
          generalize hWd : sw (I (m + 1)) L = w at *
          have hin := vp_in_nI (n := b) (N := 12) hb12 (by omega)
          have hT := inv_t hlt
          have hq1 := hlt.2.2.2.1.1
          have f2 := inv_f hlt 2 (by omega)
          have f3 := inv_f hlt 3 (by omega)
          generalize hSd : sv (I (m + 1)) (11 + 20 * L) = sc at *
          generalize hTd : sv (I (m + 1)) (12 + 20 * L) = t at *
          refine mm_if_ge 44 dX8_taste_38 (by decide) (fun c_38 => ?_) (fun c_38 => absurd (nI_pos' (by omega)) c_38)
          refine mm_aload_n dX8_taste_44 rfl rfl ?_
          refine mm_Vv (N := mX8_changes) (ci := 8) (as := []) dX8_taste_45 lk_X8_78 okX8_changes (by decide) rfl (by decide) rfl (by assumption) rfl (by decide) (r_changes hM0 (fun q => (hh (by rw [← hf1.2 4 (by decide)]; exact q)).of (hf1.2 3 (by decide)) (hf1.1 (m + 2) (by omega) (by omega)))) (fun J2 hc => ?_)
          have hs2 := hc.s
          have hw2 := hc.w hw1
          refine mm_aload_n dX8_taste_48 rfl rfl ?_
          refine mm_getR dX8_taste_49 fl_X8_22 rfl (by assumption) (by assumption) ?_
          refine mm_aload_n dX8_taste_52 rfl rfl ?_
          refine mm_Vi (N := mX8_tasted) (ci := 8) (as := []) dX8_taste_53 lk_X8_88 okX8_tasted (by decide) rfl (by decide) rfl (by assumption) rfl (by first | decide | (simp [Value.category])) (r_tasted hM0 hw2 hok.1 (fun k _ => hok.2.2.1 k)) (fun r5 J3 hq => ?_)
          obtain ⟨rfl, hJ⟩ := hq
          subst J3
          rw [hnd]
          refine mm_dup2 dX8_taste_56 rfl rfl ?_
          refine mm_iald dX8_taste_57 (by assumption) (by assumption) ?_
          rw [nI_clamp (by omega), hw2.2 b (by omega)]
          refine mm_bipush 10 dX8_taste_58 rfl ?_
          refine mm_isub dX8_taste_60 ?_
          refine mm_tope (y := nI (w b - 10)) (pk_sub (b := 10) k3) ?_
          refine mm_iast dX8_taste_61 (by assumption) (by assumption) ?_
          rw [nI_clamp (by omega)]
          refine mm_G.gen (P := fun J => rw_at J m N (w_sub w b) ∧ r_fr J2 J m) ⟨⟨by rw [mm_wr_a (by omega)]; exact hw2.1, fun k hk => by
              by_cases e : k = b
              · subst e; rw [mm_wr_s, w_sub_s]
              · rw [mm_wr_k e, w_sub_n e]; exact hw2.2 k hk⟩, r_fr.rf.w⟩ (fun J3 hJ => ?_)
          obtain ⟨j1, j2⟩ := hJ
          refine mm_aload_n dX8_taste_62 rfl rfl ?_
          refine mm_Vv (N := mX8_leaves) (ci := 8) (as := []) dX8_taste_63 lk_X8_50 okX8_leaves (by decide) rfl (by decide) rfl (by assumption) rfl (by decide) (r_leaves hM0 j1 hok.1 (fun k hk => by by_cases e : k = b; (rw [e, w_sub_s]; omega); (rw [w_sub_n e]; exact hok.2.2.1 k))) (fun J4 hq => ?_)
          obtain ⟨j3, j4⟩ := hq
          have j4 := j2.tr j4
          have j5 : rw_at J4 m (w_sipN N w b) (w_sip w b) := by
            unfold w_sipN
            by_cases e : w b = 10
            · rw [if_pos e, w_sip_y e, ← w_del_sub]
              have hpp : ∀ j, j < N → j ≠ b → 0 < w_sub w b j := fun j h1 h2 => by rw [w_sub_n h2]; exact hok.2.2.2.1 j h1
              have hz : w_sub w b b = 0 := by rw [w_sub_s]; omega
              rw [lvN_del hz N hpp (by omega)] at j3
              refine ⟨j3.1, fun k hk => ?_⟩
              rw [j3.2 k hk, lvF_del hz N hpp (by omega) k hk]
            · rw [if_neg e, w_sip_n e]
              have hpp : ∀ j, j < N → 0 < w_sub w b j := fun j h1 => by
                by_cases e2 : j = b
                · rw [e2, w_sub_s]; omega
                · rw [w_sub_n e2]; exact hok.2.2.2.1 j h1
              rw [lvN_pos N hpp] at j3
              refine ⟨j3.1, fun k hk => ?_⟩
              rw [j3.2 k hk, lvF_pos N hpp k hk]
          have hsipN : w_sipN N w b ≤ 12 := by have := hok.1; unfold w_sipN; split <;> omega
          refine mm_aload_n dX8_taste_66 rfl rfl ?_
          refine mm_iload_n dX8_taste_67 rfl rfl ?_
          refine mm_Vv (N := mX8_lays) (ci := 8) (as := [_]) dX8_taste_68 lk_X8_92 okX8_lays (by decide) rfl (by decide) rfl (by assumption) rfl (by decide) (r_lays hM0 hL6 j5.1 hsipN) (fun J5 hq => ?_)
          obtain ⟨j6, j7⟩ := hq
          have hs4 : J4 (m + 1) = I (m + 1) := by rw [j4.s, hs2, hs1]
          rw [hs4] at j6
          have hlay : J5 (m + 1) = w_lay (I (m + 1)) L (w_sipN N w b) (fun k => nI (w_sip w b k)) := by
            rw [j6]
            funext j
            unfold w_lay
            by_cases e1 : j = 9 + 20 * L
            · rw [if_pos e1, if_pos e1]
            · rw [if_neg e1, if_neg e1]
              by_cases e2 : 17 + 20 * L ≤ j ∧ j < 17 + 20 * L + w_sipN N w b
              · rw [if_pos e2, if_pos e2, j5.2 _ (by omega)]
              · rw [if_neg e2, if_neg e2]
          clear j6
          have l2 : J5 (m + 1) (11 + 20 * L) = nI sc := by rw [hlay]; unfold w_lay; rw [if_neg (by omega), if_neg (by omega)]; exact f2
          have l3 : J5 (m + 1) (12 + 20 * L) = nI t := by rw [hlay]; unfold w_lay; rw [if_neg (by omega), if_neg (by omega)]; exact f3
          refine mm_aload_n dX8_taste_71 rfl rfl ?_
          refine mm_getR dX8_taste_72 fl_X8_7 rfl (by assumption) (by assumption) ?_
          refine mm_bipush 9 dX8_taste_75 rfl ?_
          refine mm_bipush 20 dX8_taste_77 rfl ?_
          refine mm_iload_n dX8_taste_79 rfl rfl ?_
          refine mm_imul dX8_taste_80 ?_
          refine mm_tope (y := nI (20 * L)) (pk_mul 20 L) ?_
          refine mm_iadd dX8_taste_81 ?_
          refine mm_tope (y := nI (9 + 20 * L)) (nI_add 9 _) ?_
          refine mm_iconst 2 dX8_taste_82 rfl ?_
          refine mm_iadd dX8_taste_83 ?_
          refine mm_tope (y := nI (11 + 20 * L)) ((nI_add (9 + 20 * L) 2).trans (congrArg nI (by omega))) ?_
          refine mm_dup2 dX8_taste_84 rfl rfl ?_
          refine mm_iald dX8_taste_85 (by assumption) (hx (11 + 20 * L) (by omega)) ?_
          rw [nI_clamp (by omega), l2]
          refine mm_iload_n dX8_taste_86 rfl rfl ?_
          refine mm_iadd dX8_taste_87 ?_
          refine mm_tope (y := nI (sc + C)) (nI_add _ _) ?_
          refine mm_iast dX8_taste_88 (by assumption) (hx (11 + 20 * L) (by omega)) ?_
          rw [nI_clamp (by omega)]
          refine mm_aload_n dX8_taste_89 rfl rfl ?_
          refine mm_getR dX8_taste_90 fl_X8_7 rfl (by assumption) (by assumption) ?_
          refine mm_bipush 9 dX8_taste_93 rfl ?_
          refine mm_bipush 20 dX8_taste_95 rfl ?_
          refine mm_iload_n dX8_taste_97 rfl rfl ?_
          refine mm_imul dX8_taste_98 ?_
          refine mm_tope (y := nI (20 * L)) (pk_mul 20 L) ?_
          refine mm_iadd dX8_taste_99 ?_
          refine mm_tope (y := nI (9 + 20 * L)) (nI_add 9 _) ?_
          refine mm_iconst 3 dX8_taste_100 rfl ?_
          refine mm_iadd dX8_taste_101 ?_
          refine mm_tope (y := nI (12 + 20 * L)) ((nI_add (9 + 20 * L) 3).trans (congrArg nI (by omega))) ?_
          refine mm_dup2 dX8_taste_102 rfl rfl ?_
          refine mm_iald dX8_taste_103 (by assumption) (hx (12 + 20 * L) (by omega)) ?_
          rw [nI_clamp (by omega), mm_wr_k (by omega), l3]
          refine mm_iconst 1 dX8_taste_104 rfl ?_
          refine mm_iadd dX8_taste_105 ?_
          refine mm_tope (y := nI (t + 1)) (nI_1 t) ?_
          refine mm_iast dX8_taste_106 (by assumption) (hx (12 + 20 * L) (by omega)) ?_
          rw [nI_clamp (by omega)]
          refine mm_aload_n dX8_taste_107 rfl rfl ?_
          refine mm_iload_n dX8_taste_108 rfl rfl ?_
          refine mm_Vi (N := mX8_quote) (ci := 8) (as := [_]) dX8_taste_109 lk_X8_95 okX8_quote (by decide) rfl (by decide) rfl (by assumption) rfl (by decide) (r_quote (sc := sc + C) (t := t + 1) hM0 hL6 (by rw [mm_wr_k (by omega), mm_wr_s]) mm_wr_s (by omega) (by omega)) (fun r6 J6 hq => ?_)
          obtain ⟨rfl, hJ⟩ := hq
          subst J6
          refine mm_iret dX8_taste_112 rfl ?_
          refine ⟨rfl, _, rfl, ?_⟩
          rw [hsp]
          have hqn : w_quote (sc + C) (t + 1) < 2 ^ 31 := by
            unfold w_quote
            have hm : (sc + C) / (t + 1) ≤ 100 := Nat.div_le_of_le_mul (by omega)
            have hmm : (sc + C) / (t + 1) * ((sc + C) / (t + 1)) ≤ 100 * 100 := Nat.mul_le_mul hm hm
            omega
          exact ⟨rfl, by rw [mm_wr_upd, mm_wr_upd, hlay], r_op.yes (nI_pos' hqn) hf1 hc (fun c q1 q2 q3 => by rw [mm_wr_row q2, mm_wr_row q2, j7 c q2, j4.1 c q1 q3]) (fun j hj => by rw [mm_wr_a (by omega), mm_wr_a (by omega), j7 m (by omega), j4.2 j hj])⟩
        
    · skip
      have n2 := if_no c_15
      refine mm_ldc dX8_taste_18 ct_X8_76 ?_
      refine mm_iret dX8_taste_20 rfl ?_
      first
        | exact ⟨rfl, _, rfl, r_Q_err (if_pos (fun q => n1 q.1)) (by decide)⟩
        | exact ⟨rfl, _, rfl, r_Q_err (if_pos (fun q => n2 q.2)) (by decide)⟩
set_option maxRecDepth 100000 in
set_option maxHeartbeats 4000000 in
theorem r_top {S : mm_S} {I : mm_I} {m n : Nat} {hs : Nat → Nat → Int32} {l : Int32} (hM : mm_ref S m) (hi : Inv (I (m + 1))) (hh : I m 4 = 0 → hist_r I m n hs) : mm_ci mX8_top [.ref m, .int l] S I (r_Q m n hs I (sp_top (I (m + 1)) l)) := by
  have hM0 := hM
  obtain ⟨hk, hp0, hp1, hp2, hp5, hp7, hp15, hk1, hk2, hk3, hk4, hk5, hk6⟩ := hM
  have hx : ∀ n, n < 316 → vp_in (nI n) 316 := fun n h => vp_in_nI h (by omega)
  refine mm_ci.of okX8_top rfl (Nat.le_of_ble_eq_true rfl) (lv := [(0, .ref m), (1, .int l)]) rfl ?_
  refine mm_aload_n dX8_top_0 rfl rfl ?_
  refine mm_iload_n dX8_top_1 rfl rfl ?_
  refine mm_Vi (N := mX8_isLot) (ci := 8) (as := [_]) dX8_top_2 lk_X8_81 okX8_isLot (by decide) rfl (by decide) rfl (by assumption) rfl (by decide) (r_isLot hM0) (fun r1 J1 hq => ?_)
  obtain ⟨rfl, hJ⟩ := hq
  subst J1
  refine mm_if_ne 11 dX8_top_5 (by decide) (fun c_5 => ?_) (fun c_5 => ?_)
  · skip
    have y1 := if_yes c_5
    obtain ⟨L, hLn, hL6, rfl, hLc⟩ := inv_l hi y1
    have hlt := hi.2.1 L hL6
    have hok := hlt.2.1
    have hsp : sp_top (I (m + 1)) (nI L) = match w_find (fun k => decide (sw (I (m + 1)) L k < 2250)) 0 (sv (I (m + 1)) (9 + 20 * L) - 1) with
        | none => (-2000000002, I (m + 1))
        | some _ => (nI (w_top 24 0 (sv (I (m + 1)) (9 + 20 * L)) (sw (I (m + 1)) L)).1, w_lay (I (m + 1)) L (w_top 24 0 (sv (I (m + 1)) (9 + 20 * L)) (sw (I (m + 1)) L)).1 (fun k => nI ((w_top 24 0 (sv (I (m + 1)) (9 + 20 * L)) (sw (I (m + 1)) L)).2 k))) := by
      unfold sp_top
      rw [if_neg (fun q => q y1), hLc]
      rfl
    refine mm_aload_n dX8_top_11 rfl rfl ?_
    refine mm_iload_n dX8_top_12 rfl rfl ?_
    refine mm_Vv (N := mX8_loads) (ci := 8) (as := [_]) dX8_top_13 lk_X8_62 okX8_loads (by decide) rfl (by decide) rfl (by assumption) rfl (by decide) (inv_load hM0 hi hL6) (fun J1 hw1 => ?_)
    obtain ⟨hw1, hf1⟩ := hw1
    have hs1 := hf1.s
    have hb5 := hlt.2.2.2.2.1
    refine mm_aload_n dX8_top_16 rfl rfl ?_
    refine mm_iload_n dX8_top_17 rfl rfl ?_
    refine mm_Vi (N := mX8_isOpen) (ci := 8) (as := [_]) dX8_top_18 lk_X8_85 okX8_isOpen (by decide) rfl (by decide) rfl (by assumption) rfl (by decide) (r_isOpen hM0 hL6) (fun r3 J2 hq => ?_)
    obtain ⟨rfl, hJ⟩ := hq
    subst J2
    refine mm_if_eq 31 dX8_top_21 (by decide) (fun c_21 => ?_) (fun c_21 => ?_)
    · skip
      have n3 := if_no c_21
      have hn0 : sv (I (m + 1)) (9 + 20 * L) = 0 := by
        apply hb5.2.1
        have e1 := hb5.1
        rcases Nat.eq_zero_or_pos (sv (I (m + 1)) (13 + 20 * L)) with e | e
        · exfalso
          apply n3
          rw [hs1, inv_f hlt 4 (by omega), e]
          rfl
        · omega
      rw [hn0] at hsp
      refine mm_ldc dX8_top_31 ct_X8_91 ?_
      refine mm_iret dX8_top_33 rfl ?_
      exact ⟨rfl, _, rfl, r_Q_erf hsp (by decide) hf1⟩
    · skip
      have y3 := if_yes c_21
      refine mm_aload_n dX8_top_24 rfl rfl ?_
      refine mm_Vi (N := mX8_needy) (ci := 8) (as := []) dX8_top_25 lk_X8_69 okX8_needy (by decide) rfl (by decide) rfl (by assumption) rfl (by decide) (r_needy hM0 hw1 hok.1 (fun k _ => hok.2.2.1 k)) (fun r4 J2 hq => ?_)
      obtain ⟨rfl, hJ⟩ := hq
      subst J2
      cases hnd : w_find (fun k => decide (sw (I (m + 1)) L k < 2250)) 0 (sv (I (m + 1)) (9 + 20 * L) - 1) with
      | none =>
        rw [hnd] at hsp
        refine mm_if_ge 34 dX8_top_28 (by decide) (fun c_28 => absurd c_28 (by decide)) (fun c_28 => ?_)
        refine mm_ldc dX8_top_31 ct_X8_91 ?_
        refine mm_iret dX8_top_33 rfl ?_
        exact ⟨rfl, _, rfl, r_Q_erf hsp (by decide) hf1⟩
      | some b =>
        rw [hnd] at hsp
        obtain ⟨k1, k2, k3, k4⟩ := w_find_some hnd
        have hb12 : b < 12 := by have := hok.1; omega
        refine mm_if_ge 34 dX8_top_28 (by decide) (fun c_28 => ?_) (fun c_28 => absurd (nI_pos' (by omega)) c_28)
        refine mm_aload_n dX8_top_34 rfl rfl ?_
        refine mm_Vv (N := mX8_changes) (ci := 8) (as := []) dX8_top_35 lk_X8_78 okX8_changes (by decide) rfl (by decide) rfl (by assumption) rfl (by decide) (r_changes hM0 (fun q => (hh (by rw [← hf1.2 4 (by decide)]; exact q)).of (hf1.2 3 (by decide)) (hf1.1 (m + 2) (by omega) (by omega)))) (fun J2 hc => ?_)
        have hs2 := hc.s
        have hw2 := hc.w hw1
        refine mm_aload_n dX8_top_38 rfl rfl ?_
        refine mm_Vv (N := mX8_tops) (ci := 8) (as := []) dX8_top_39 lk_X8_98 okX8_tops (by decide) rfl (by decide) rfl (by assumption) rfl (by decide) (r_tops hM0 hw2 hok) (fun J3 hq => ?_)
        obtain ⟨j1, j2, j3⟩ := hq
        refine mm_aload_n dX8_top_42 rfl rfl ?_
        refine mm_iload_n dX8_top_43 rfl rfl ?_
        refine mm_Vv (N := mX8_lays) (ci := 8) (as := [_]) dX8_top_44 lk_X8_92 okX8_lays (by decide) rfl (by decide) rfl (by assumption) rfl (by decide) (r_lays hM0 hL6 j1.1 j2.1) (fun J5 hq => ?_)
        obtain ⟨j6, j7⟩ := hq
        have hs4 : J3 (m + 1) = I (m + 1) := by rw [j3.s, hs2, hs1]
        rw [hs4] at j6
        have hlay : J5 (m + 1) = w_lay (I (m + 1)) L (w_top 24 0 (sv (I (m + 1)) (9 + 20 * L)) (sw (I (m + 1)) L)).1 (fun k => nI ((w_top 24 0 (sv (I (m + 1)) (9 + 20 * L)) (sw (I (m + 1)) L)).2 k)) := by
          rw [j6]
          funext j
          unfold w_lay
          by_cases e1 : j = 9 + 20 * L
          · rw [if_pos e1, if_pos e1]
          · rw [if_neg e1, if_neg e1]
            by_cases e2 : 17 + 20 * L ≤ j ∧ j < 17 + 20 * L + (w_top 24 0 (sv (I (m + 1)) (9 + 20 * L)) (sw (I (m + 1)) L)).1
            · rw [if_pos e2, if_pos e2, j1.2 _ (by omega)]
            · rw [if_neg e2, if_neg e2]
        clear j6
        refine mm_aload_n dX8_top_47 rfl rfl ?_
        refine mm_getI dX8_top_48 fl_X8_47 rfl (by assumption) ?_
        refine mm_tope (y := nI (w_top 24 0 (sv (I (m + 1)) (9 + 20 * L)) (sw (I (m + 1)) L)).1) (by rw [j7 m (by omega)]; exact j1.1) ?_
        refine mm_iret dX8_top_51 rfl ?_
        refine ⟨rfl, _, rfl, ?_⟩
        rw [hsp]
        exact ⟨rfl, hlay, r_op.yes (nI_pos' (by have := j2.1; show _ < 2 ^ 31; omega)) hf1 hc (fun c q1 q2 q3 => by rw [j7 c q2, j3.1 c q1 q3]) (fun j hj => by rw [j7 m (by omega), j3.2 j hj])⟩
      
  · skip
    have n1 := if_no c_5
    refine mm_ldc dX8_top_8 ct_X8_76 ?_
    refine mm_iret dX8_top_10 rfl ?_
    exact ⟨rfl, _, rfl, r_Q_err (if_pos n1) (by decide)⟩
