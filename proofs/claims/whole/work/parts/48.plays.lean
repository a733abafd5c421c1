/-! THE REFERENCE: a text is played -/
abbrev PlT : Type := Bool × (Nat → Int32) × Nat × Nat × Int32 × Int32
def pl (c : Nat → Nat) (ty : Nat) : Nat → Nat → Nat → (Nat → Int32) → (Nat → Int32) → PlT
  | 0, _, o, s, _ => (true, s, o, 0, 0, 0)
  | f + 1, p, o, s, v => if p < ty then (if (rdO c p v).1 = true then (if 0 ≤ (sp_call s (c p) (rdO c p v).2.2).1 then pl c ty f (rdO c p v).2.1 (o + 1) (sp_call s (c p) (rdO c p v).2.2).2 (rdO c p v).2.2 else (false, (sp_call s (c p) (rdO c p v).2.2).2, o + 1, p, 2, (sp_call s (c p) (rdO c p v).2.2).1)) else (false, s, o + 1, p, 1, nI ((rdO c p v).2.1 - p))) else (true, s, o, 0, 0, 0)
theorem pl_end {c : Nat → Nat} {ty f p o : Nat} {s v : Nat → Int32} (h : ¬ p < ty) : pl c ty f p o s v = (true, s, o, 0, 0, 0) := by
  cases f with
  | zero => rfl
  | succ f => exact if_neg h
def r_pl (m : Nat) (I J : mm_I) : Prop := (∀ c, c ≠ m → c ≠ m + 1 → c ≠ m + 5 → c ≠ m + 6 → J c = I c) ∧ J m 3 = I m 3 ∧ J m 6 = I m 6
theorem r_pl.tr {m : Nat} {I J K : mm_I} (h : r_pl m I J) (g : r_pl m J K) : r_pl m I K := ⟨fun c h1 h2 h3 h4 => by rw [g.1 c h1 h2 h3 h4]; exact h.1 c h1 h2 h3 h4, g.2.1.trans h.2.1, g.2.2.trans h.2.2⟩
theorem r_pl.rf {m : Nat} {I : mm_I} : r_pl m I I := ⟨fun _ _ _ _ _ => rfl, rfl, rfl⟩
theorem r_pl.w {m k : Nat} {I J : mm_I} {z : Int32} (h : r_pl m I J) (h3 : 3 ≠ k) (h6 : 6 ≠ k) : r_pl m I (mm_wr J m k z) := ⟨fun c h1 h2 h4 h5 => by rw [mm_wr_row h1]; exact h.1 c h1 h2 h4 h5, (mm_wr_k h3).trans h.2.1, (mm_wr_k h6).trans h.2.2⟩
theorem r_pl.tx {m ty : Nat} {x : Nat → Nat} {I J : mm_I} (h : r_pl m I J) (g : tx_at I m ty x) : tx_at J m ty x := ⟨h.2.2.trans g.1, g.2.1, fun p hp => by rw [h.1 (m + 4) (by omega) (by omega) (by omega) (by omega)]; exact g.2.2 p hp⟩
theorem r_ft.pl {m : Nat} {I J : mm_I} (h : r_ft m I J) : r_pl m I J := ⟨fun c h1 _ _ h4 => h.1 c h1 h4, h.2 3 (by decide) (by decide), h.2 6 (by decide) (by decide)⟩
theorem r_op.pl {m n : Nat} {hs : Nat → Nat → Int32} {ch : Prop} {I J : mm_I} (h : r_op m n hs ch I J) (h4 : ¬ I m 4 = 0) : r_pl m I J := by
  have h3 := h.2.2.1 (fun _ => h4)
  refine ⟨fun c q1 q2 q3 q4 => ?_, h3.2, h.2.1 6 (by decide) (by decide)⟩
  by_cases e : c = m + 2
  · rw [e]; exact h3.1
  · exact h.1 c q1 q2 e q3
theorem rdO_nOf {c : Nat → Nat} {p : Nat} {v : Nat → Int32} (h : (rdO c p v).1 = true) : nOf (c p) ≠ 0 := fun q => by
  have e : rdO c p v = (false, p, v) := if_pos q
  rw [e] at h
  cases h

set_option maxRecDepth 100000 in
set_option maxHeartbeats 4000000 in
theorem r_plays {S : mm_S} {I : mm_I} {m ty : Nat} {x : Nat → Nat} {R : PlT} (hM : mm_ref S m) (hT : tx_at I m ty x) (hi0 : Inv (I (m + 1))) (hR0 : pl (cc ty x) ty 61 0 0 (I (m + 1)) (I (m + 6)) = R) : mm_ci mX8_plays [.ref m] S I (fun q J => q = (if R.1 = true then 1 else 0) ∧ J (m + 1) = R.2.1 ∧ J m 13 = nI R.2.2.1 ∧ (R.1 = false → J m 10 = nI R.2.2.2.1 ∧ J m 11 = R.2.2.2.2.1 ∧ J m 12 = R.2.2.2.2.2) ∧ J m 4 = 0 ∧ r_pl m I J) := by
  have hM0 := hM
  obtain ⟨hk9, hp0, hp1, hp2, hp5, hp7, hp15, hk1, hk2, hk3, hk4, hk5, hk6⟩ := hM
  have hty := hT.2.1
  refine mm_ci.of okX8_plays rfl (Nat.le_of_ble_eq_true rfl) (lv := [(0, .ref m)]) rfl ?_
  have ex0 : ∀ (p : Nat) (I1 : mm_I), p ≤ 60 → R.1 = false → tx_at I1 m ty x → I1 m 9 = nI p → I1 (m + 1) = R.2.1 → I1 m 13 = nI R.2.2.1 → I1 m 10 = nI R.2.2.2.1 → I1 m 11 = R.2.2.2.2.1 → I1 m 12 = R.2.2.2.2.2 → r_pl m I I1 → mm_Gi mX8_plays (fun q J => q = (if R.1 = true then 1 else 0) ∧ J (m + 1) = R.2.1 ∧ J m 13 = nI R.2.2.1 ∧ (R.1 = false → J m 10 = nI R.2.2.2.1 ∧ J m 11 = R.2.2.2.2.1 ∧ J m 12 = R.2.2.2.2.2) ∧ J m 4 = 0 ∧ r_pl m I J) 22 [(1, .int 0), (0, .ref m)] [] S S I1 := by
    intro p I1 hp hR eT e9 e1 e13 e10 e11 e12 hf
    refine mm_aload_n dX8_plays_22 rfl rfl ?_
    refine mm_getI dX8_plays_23 fl_X8_151 rfl (by assumption) ?_
    refine mm_tope (y := nI p) e9 ?_
    refine mm_aload_n dX8_plays_26 rfl rfl ?_
    refine mm_getI dX8_plays_27 fl_X8_148 rfl (by assumption) ?_
    refine mm_tope (y := nI ty) eT.1 ?_
    refine mm_icmp_ge 124 dX8_plays_30 (by decide) (fun c_30 => ?_) (fun c_30 => ?_)
    · skip
      refine mm_aload_n dX8_plays_124 rfl rfl ?_
      refine mm_iconst 0 dX8_plays_125 rfl ?_
      refine mm_putZ dX8_plays_126 fl_X8_28 rfl rfl (Or.inl rfl) (by assumption) ?_
      refine mm_iload_n dX8_plays_129 rfl rfl ?_
      refine mm_zret dX8_plays_130 rfl (by first | exact Or.inl rfl | exact Or.inr rfl | assumption) ?_
      exact ⟨rfl, _, rfl, by rw [hR]; rfl, (mm_wr_row (by omega)).trans e1, (mm_wr_k (by omega)).trans e13, fun _ => ⟨(mm_wr_k (by omega)).trans e10, (mm_wr_k (by omega)).trans e11, (mm_wr_k (by omega)).trans e12⟩, mm_wr_s, hf.w (by decide) (by decide)⟩
    · skip
      refine mm_iload_n dX8_plays_33 rfl rfl ?_
      refine mm_if_eq 124 dX8_plays_34 (by decide) (fun c_34 => ?_) (fun c_34 => absurd rfl c_34)
      refine mm_aload_n dX8_plays_124 rfl rfl ?_
      refine mm_iconst 0 dX8_plays_125 rfl ?_
      refine mm_putZ dX8_plays_126 fl_X8_28 rfl rfl (Or.inl rfl) (by assumption) ?_
      refine mm_iload_n dX8_plays_129 rfl rfl ?_
      refine mm_zret dX8_plays_130 rfl (by first | exact Or.inl rfl | exact Or.inr rfl | assumption) ?_
      exact ⟨rfl, _, rfl, by rw [hR]; rfl, (mm_wr_row (by omega)).trans e1, (mm_wr_k (by omega)).trans e13, fun _ => ⟨(mm_wr_k (by omega)).trans e10, (mm_wr_k (by omega)).trans e11, (mm_wr_k (by omega)).trans e12⟩, mm_wr_s, hf.w (by decide) (by decide)⟩
  have loop : ∀ (f p o : Nat) (s : Nat → Int32) (I1 : mm_I), p ≤ ty → ty < f + p → Inv s → pl (cc ty x) ty f p o s (I1 (m + 6)) = R → I1 m 9 = nI p → I1 (m + 1) = s → I1 m 13 = nI o → I1 m 4 = 1 → r_pl m I I1 → mm_Gi mX8_plays (fun q J => q = (if R.1 = true then 1 else 0) ∧ J (m + 1) = R.2.1 ∧ J m 13 = nI R.2.2.1 ∧ (R.1 = false → J m 10 = nI R.2.2.2.1 ∧ J m 11 = R.2.2.2.2.1 ∧ J m 12 = R.2.2.2.2.2) ∧ J m 4 = 0 ∧ r_pl m I J) 22 [(1, .int 1), (0, .ref m)] [] S S I1 := by
    intro f
    induction f with
    | zero => exact fun p o s I1 h1 h2 => absurd h2 (by omega)
    | succ f ih =>
      intro p o s I1 hpt hfu hi hR e9 e1 e13 e4 hf
      have eT := hf.tx hT
      by_cases hlt : p < ty
      case neg =>
        have hRx : R = (true, s, o, 0, 0, 0) := by rw [← hR]; exact pl_end hlt
        refine mm_aload_n dX8_plays_22 rfl rfl ?_
        refine mm_getI dX8_plays_23 fl_X8_151 rfl (by assumption) ?_
        refine mm_tope (y := nI p) e9 ?_
        refine mm_aload_n dX8_plays_26 rfl rfl ?_
        refine mm_getI dX8_plays_27 fl_X8_148 rfl (by assumption) ?_
        refine mm_tope (y := nI ty) eT.1 ?_
        refine mm_icmp_ge 124 dX8_plays_30 (by decide) (fun c_30 => ?_) (fun c_30 => absurd (nI_le (by omega) (by omega)) c_30)
        refine mm_aload_n dX8_plays_124 rfl rfl ?_
        refine mm_iconst 0 dX8_plays_125 rfl ?_
        refine mm_putZ dX8_plays_126 fl_X8_28 rfl rfl (Or.inl rfl) (by assumption) ?_
        refine mm_iload_n dX8_plays_129 rfl rfl ?_
        refine mm_zret dX8_plays_130 rfl (by first | exact Or.inl rfl | exact Or.inr rfl | assumption) ?_
        exact ⟨rfl, _, rfl, by rw [hRx]; rfl, by rw [hRx]; exact (mm_wr_row (by omega)).trans e1, by rw [hRx]; exact (mm_wr_k (by omega)).trans e13, fun h => (by rw [hRx] at h; cases h), mm_wr_s, hf.w (by decide) (by decide)⟩
      case pos =>
        refine mm_aload_n dX8_plays_22 rfl rfl ?_
        refine mm_getI dX8_plays_23 fl_X8_151 rfl (by assumption) ?_
        refine mm_tope (y := nI p) e9 ?_
        refine mm_aload_n dX8_plays_26 rfl rfl ?_
        refine mm_getI dX8_plays_27 fl_X8_148 rfl (by assumption) ?_
        refine mm_tope (y := nI ty) eT.1 ?_
        refine mm_icmp_ge 124 dX8_plays_30 (by decide) (fun c_30 => absurd c_30 (nI_ge (by omega) (by omega))) (fun c_30 => ?_)
        refine mm_iload_n dX8_plays_33 rfl rfl ?_
        refine mm_if_eq 124 dX8_plays_34 (by decide) (fun c_34 => absurd c_34 (by decide)) (fun c_34 => ?_)
        refine mm_aload_n dX8_plays_37 rfl rfl ?_
        refine mm_aload_n dX8_plays_38 rfl rfl ?_
        refine mm_getI dX8_plays_39 fl_X8_151 rfl (by assumption) ?_
        refine mm_tope (y := nI p) e9 ?_
        refine mm_putI dX8_plays_42 fl_X8_184 rfl rfl (by assumption) ?_
        refine mm_aload_n dX8_plays_45 rfl rfl ?_
        refine mm_Vi (N := mX8_reads) (ci := 8) (as := []) dX8_plays_46 lk_X8_190 okX8_reads (by decide) rfl (by decide) rfl (by assumption) rfl (by decide) (r_reads (p := p) hM0 ((hf.w (k := 10) (by decide) (by decide)).tx hT) ((mm_wr_k (by omega)).trans e9) (by omega)) (fun r2 J2 hq => ?_)
        obtain ⟨rfl, w9, w6, w14, wf⟩ := hq
        have hrow : mm_wr I1 m 10 (nI p) (m + 6) = I1 (m + 6) := mm_wr_row (by omega)
        rw [hrow] at w9 w6 w14
        rw [hrow]
        have W1 : J2 (m + 1) = I1 (m + 1) := (wf.1 (m + 1) (by omega) (by omega)).trans (mm_wr_row (by omega))
        have W4 : J2 m 4 = 1 := (wf.2 4 (by decide) (by decide)).trans ((mm_wr_k (by omega)).trans e4)
        have W10 : J2 m 10 = nI p := (wf.2 10 (by decide) (by decide)).trans mm_wr_s
        have W13 : J2 m 13 = nI o := (wf.2 13 (by decide) (by decide)).trans ((mm_wr_k (by omega)).trans e13)
        have Wf : r_pl m I J2 := (hf.w (by decide) (by decide)).tr wf.pl
        have hle := rdO_le (v := I1 (m + 6)) (c := cc ty x) (ty := ty) (fun p hp => cc_0 hp) hlt
        by_cases hfm : (rdO (cc ty x) p (I1 (m + 6))).1 = true
        · rw [if_pos hfm]
          have w14 := w14 hfm
          refine mm_istore_n dX8_plays_49 rfl (Nat.le_of_ble_eq_true rfl) ?_
          refine mm_iload_n dX8_plays_50 rfl rfl ?_
          refine mm_if_eq 61 dX8_plays_51 (by decide) (fun c_51 => absurd c_51 (by decide)) (fun c_51 => ?_)
          refine mm_aload_n dX8_plays_54 rfl rfl ?_
          refine mm_Vi (N := mX8_calls) (ci := 8) (as := []) dX8_plays_55 lk_X8_194 okX8_calls (by decide) rfl (by decide) rfl (by assumption) rfl (by decide) (r_calls hM0 (by rw [W1, e1]; exact hi) (by rw [W4]; decide) w14 (rdO_nOf hfm)) (fun r3 J3 hq => ?_)
          obtain ⟨rfl, k1, kf⟩ := hq
          rw [W1, e1, w6] at k1 kf
          rw [W1, e1, w6]
          have K9 : J3 m 9 = _ := (kf.2.1 9 (by decide) (by decide)).trans w9
          have K4 : J3 m 4 = 1 := (kf.2.1 4 (by decide) (by decide)).trans W4
          have K10 : J3 m 10 = nI p := (kf.2.1 10 (by decide) (by decide)).trans W10
          have K13 : J3 m 13 = nI o := (kf.2.1 13 (by decide) (by decide)).trans W13
          have K6 : J3 (m + 6) = _ := (kf.1 (m + 6) (by omega) (by omega) (by omega) (by omega)).trans w6
          have Kf : r_pl m I J3 := Wf.tr (kf.pl (by rw [W4]; decide))
          refine mm_goto 62 dX8_plays_58 (by decide) ?_
          refine mm_istore_n dX8_plays_62 rfl (Nat.le_of_ble_eq_true rfl) ?_
          refine mm_iload_n dX8_plays_63 rfl rfl ?_
          refine mm_if_eq 75 dX8_plays_64 (by decide) (fun c_64 => absurd c_64 (by decide)) (fun c_64 => ?_)
          refine mm_iload_n dX8_plays_67 rfl rfl ?_
          refine mm_if_lt 75 dX8_plays_68 (by decide) (fun c_68 => ?_) (fun c_68 => ?_)
          · skip
            have hno : ¬ 0 ≤ (sp_call s (cc ty x p) (rdO (cc ty x) p (I1 (m + 6))).2.2).1 := Int32.not_le.mpr c_68
            have hRx : R = (false, (sp_call s (cc ty x p) (rdO (cc ty x) p (I1 (m + 6))).2.2).2, o + 1, p, 2, (sp_call s (cc ty x p) (rdO (cc ty x) p (I1 (m + 6))).2.2).1) := by rw [← hR]; exact (if_pos hlt).trans ((if_pos hfm).trans (if_neg hno))
            refine mm_iconst 0 dX8_plays_75 rfl ?_
            refine mm_istore_n dX8_plays_76 rfl (Nat.le_of_ble_eq_true rfl) ?_
            refine mm_aload_n dX8_plays_77 rfl rfl ?_
            refine mm_iload_n dX8_plays_78 rfl rfl ?_
            refine mm_if_eq 86 dX8_plays_79 (by decide) (fun c_79 => absurd c_79 (by decide)) (fun c_79 => ?_)
            refine mm_iconst 2 dX8_plays_82 rfl ?_
            refine mm_goto 87 dX8_plays_83 (by decide) ?_
            refine mm_putI dX8_plays_87 fl_X8_197 rfl rfl (by assumption) ?_
            refine mm_aload_n dX8_plays_90 rfl rfl ?_
            refine mm_iload_n dX8_plays_91 rfl rfl ?_
            refine mm_if_eq 99 dX8_plays_92 (by decide) (fun c_92 => absurd c_92 (by decide)) (fun c_92 => ?_)
            refine mm_iload_n dX8_plays_95 rfl rfl ?_
            refine mm_goto 108 dX8_plays_96 (by decide) ?_
            refine mm_putI dX8_plays_108 fl_X8_200 rfl rfl (by assumption) ?_
            refine mm_aload_n dX8_plays_111 rfl rfl ?_
            refine mm_dup dX8_plays_112 rfl ?_
            refine mm_getI dX8_plays_113 fl_X8_187 rfl (by assumption) ?_
            refine mm_tope (y := nI o) ((mm_wr_k (by omega)).trans ((mm_wr_k (by omega)).trans K13)) ?_
            refine mm_iconst 1 dX8_plays_116 rfl ?_
            refine mm_iadd dX8_plays_117 ?_
            refine mm_tope (y := nI (o + 1)) (nI_1 o) ?_
            refine mm_putI dX8_plays_118 fl_X8_187 rfl rfl (by assumption) ?_
            refine mm_goto 22 dX8_plays_121 (by decide) ?_
            first
              | exact mm_G.at (ex0 (rdO (cc ty x) p (I1 (m + 6))).2.1 _ (by omega) (by rw [hRx]) ((((Kf.w (by decide) (by decide)).w (by decide) (by decide)).w (by decide) (by decide)).tx hT) ((mm_wr_k (by omega)).trans ((mm_wr_k (by omega)).trans ((mm_wr_k (by omega)).trans K9))) (by rw [hRx, mm_wr_row (by omega), mm_wr_row (by omega), mm_wr_row (by omega)]; exact k1) (by rw [hRx]; exact mm_wr_s) (by rw [hRx]; exact (mm_wr_k (by omega)).trans ((mm_wr_k (by omega)).trans ((mm_wr_k (by omega)).trans K10))) (by rw [hRx]; exact (mm_wr_k (by omega)).trans ((mm_wr_k (by omega)).trans mm_wr_s)) (by rw [hRx]; exact (mm_wr_k (by omega)).trans mm_wr_s) (((Kf.w (by decide) (by decide)).w (by decide) (by decide)).w (by decide) (by decide))) (mm_s1 rfl (mm_s1 rfl mm_s0))
              | exact mm_G.at (ih _ (o + 1) _ _ hle.2.1 (by have := hle.2.2 hfm; omega) hi.call (by rw [mm_wr_row (by omega), mm_wr_row (by omega), mm_wr_row (by omega), K6]; exact hRy) ((mm_wr_k (by omega)).trans ((mm_wr_k (by omega)).trans ((mm_wr_k (by omega)).trans K9))) (by rw [mm_wr_row (by omega), mm_wr_row (by omega), mm_wr_row (by omega)]; exact k1) mm_wr_s ((mm_wr_k (by omega)).trans ((mm_wr_k (by omega)).trans ((mm_wr_k (by omega)).trans K4))) (((Kf.w (by decide) (by decide)).w (by decide) (by decide)).w (by decide) (by decide))) (mm_s1 rfl (mm_s1 rfl mm_s0))
          · skip
            have hyes : 0 ≤ (sp_call s (cc ty x p) (rdO (cc ty x) p (I1 (m + 6))).2.2).1 := Int32.not_lt.mp c_68
            have hRy : pl (cc ty x) ty f (rdO (cc ty x) p (I1 (m + 6))).2.1 (o + 1) (sp_call s (cc ty x p) (rdO (cc ty x) p (I1 (m + 6))).2.2).2 (rdO (cc ty x) p (I1 (m + 6))).2.2 = R := by rw [← hR]; exact ((if_pos hlt).trans ((if_pos hfm).trans (if_pos hyes))).symm
            refine mm_iconst 1 dX8_plays_71 rfl ?_
            refine mm_goto 76 dX8_plays_72 (by decide) ?_
            refine mm_istore_n dX8_plays_76 rfl (Nat.le_of_ble_eq_true rfl) ?_
            refine mm_aload_n dX8_plays_77 rfl rfl ?_
            refine mm_iload_n dX8_plays_78 rfl rfl ?_
            refine mm_if_eq 86 dX8_plays_79 (by decide) (fun c_79 => absurd c_79 (by decide)) (fun c_79 => ?_)
            refine mm_iconst 2 dX8_plays_82 rfl ?_
            refine mm_goto 87 dX8_plays_83 (by decide) ?_
            refine mm_putI dX8_plays_87 fl_X8_197 rfl rfl (by assumption) ?_
            refine mm_aload_n dX8_plays_90 rfl rfl ?_
            refine mm_iload_n dX8_plays_91 rfl rfl ?_
            refine mm_if_eq 99 dX8_plays_92 (by decide) (fun c_92 => absurd c_92 (by decide)) (fun c_92 => ?_)
            refine mm_iload_n dX8_plays_95 rfl rfl ?_
            refine mm_goto 108 dX8_plays_96 (by decide) ?_
            refine mm_putI dX8_plays_108 fl_X8_200 rfl rfl (by assumption) ?_
            refine mm_aload_n dX8_plays_111 rfl rfl ?_
            refine mm_dup dX8_plays_112 rfl ?_
            refine mm_getI dX8_plays_113 fl_X8_187 rfl (by assumption) ?_
            refine mm_tope (y := nI o) ((mm_wr_k (by omega)).trans ((mm_wr_k (by omega)).trans K13)) ?_
            refine mm_iconst 1 dX8_plays_116 rfl ?_
            refine mm_iadd dX8_plays_117 ?_
            refine mm_tope (y := nI (o + 1)) (nI_1 o) ?_
            refine mm_putI dX8_plays_118 fl_X8_187 rfl rfl (by assumption) ?_
            refine mm_goto 22 dX8_plays_121 (by decide) ?_
            first
              | exact mm_G.at (ex0 (rdO (cc ty x) p (I1 (m + 6))).2.1 _ (by omega) (by rw [hRx]) ((((Kf.w (by decide) (by decide)).w (by decide) (by decide)).w (by decide) (by decide)).tx hT) ((mm_wr_k (by omega)).trans ((mm_wr_k (by omega)).trans ((mm_wr_k (by omega)).trans K9))) (by rw [hRx, mm_wr_row (by omega), mm_wr_row (by omega), mm_wr_row (by omega)]; exact k1) (by rw [hRx]; exact mm_wr_s) (by rw [hRx]; exact (mm_wr_k (by omega)).trans ((mm_wr_k (by omega)).trans ((mm_wr_k (by omega)).trans K10))) (by rw [hRx]; exact (mm_wr_k (by omega)).trans ((mm_wr_k (by omega)).trans mm_wr_s)) (by rw [hRx]; exact (mm_wr_k (by omega)).trans mm_wr_s) (((Kf.w (by decide) (by decide)).w (by decide) (by decide)).w (by decide) (by decide))) (mm_s1 rfl (mm_s1 rfl mm_s0))
              | exact mm_G.at (ih _ (o + 1) _ _ hle.2.1 (by have := hle.2.2 hfm; omega) hi.call (by rw [mm_wr_row (by omega), mm_wr_row (by omega), mm_wr_row (by omega), K6]; exact hRy) ((mm_wr_k (by omega)).trans ((mm_wr_k (by omega)).trans ((mm_wr_k (by omega)).trans K9))) (by rw [mm_wr_row (by omega), mm_wr_row (by omega), mm_wr_row (by omega)]; exact k1) mm_wr_s ((mm_wr_k (by omega)).trans ((mm_wr_k (by omega)).trans ((mm_wr_k (by omega)).trans K4))) (((Kf.w (by decide) (by decide)).w (by decide) (by decide)).w (by decide) (by decide))) (mm_s1 rfl (mm_s1 rfl mm_s0))
        · rw [if_neg hfm]
          refine mm_istore_n dX8_plays_49 rfl (Nat.le_of_ble_eq_true rfl) ?_
          refine mm_iload_n dX8_plays_50 rfl rfl ?_
          refine mm_if_eq 61 dX8_plays_51 (by decide) (fun c_51 => ?_) (fun c_51 => absurd rfl c_51)
          refine mm_iconst 0 dX8_plays_61 rfl ?_
          refine mm_istore_n dX8_plays_62 rfl (Nat.le_of_ble_eq_true rfl) ?_
          refine mm_iload_n dX8_plays_63 rfl rfl ?_
          refine mm_if_eq 75 dX8_plays_64 (by decide) (fun c_64 => ?_) (fun c_64 => absurd rfl c_64)
          refine mm_iconst 0 dX8_plays_75 rfl ?_
          refine mm_istore_n dX8_plays_76 rfl (Nat.le_of_ble_eq_true rfl) ?_
          refine mm_aload_n dX8_plays_77 rfl rfl ?_
          refine mm_iload_n dX8_plays_78 rfl rfl ?_
          refine mm_if_eq 86 dX8_plays_79 (by decide) (fun c_79 => ?_) (fun c_79 => absurd rfl c_79)
          refine mm_iconst 1 dX8_plays_86 rfl ?_
          refine mm_putI dX8_plays_87 fl_X8_197 rfl rfl (by assumption) ?_
          refine mm_aload_n dX8_plays_90 rfl rfl ?_
          refine mm_iload_n dX8_plays_91 rfl rfl ?_
          refine mm_if_eq 99 dX8_plays_92 (by decide) (fun c_92 => ?_) (fun c_92 => absurd rfl c_92)
          refine mm_aload_n dX8_plays_99 rfl rfl ?_
          refine mm_getI dX8_plays_100 fl_X8_151 rfl (by assumption) ?_
          refine mm_tope (y := nI (rdO (cc ty x) p (I1 (m + 6))).2.1) ((mm_wr_k (by omega)).trans w9) ?_
          refine mm_aload_n dX8_plays_103 rfl rfl ?_
          refine mm_getI dX8_plays_104 fl_X8_184 rfl (by assumption) ?_
          refine mm_tope (y := nI p) ((mm_wr_k (by omega)).trans W10) ?_
          refine mm_isub dX8_plays_107 ?_
          refine mm_tope (y := nI ((rdO (cc ty x) p (I1 (m + 6))).2.1 - p)) (pk_sub hle.1) ?_
          refine mm_putI dX8_plays_108 fl_X8_200 rfl rfl (by assumption) ?_
          refine mm_aload_n dX8_plays_111 rfl rfl ?_
          refine mm_dup dX8_plays_112 rfl ?_
          refine mm_getI dX8_plays_113 fl_X8_187 rfl (by assumption) ?_
          refine mm_tope (y := nI o) ((mm_wr_k (by omega)).trans ((mm_wr_k (by omega)).trans W13)) ?_
          refine mm_iconst 1 dX8_plays_116 rfl ?_
          refine mm_iadd dX8_plays_117 ?_
          refine mm_tope (y := nI (o + 1)) (nI_1 o) ?_
          refine mm_putI dX8_plays_118 fl_X8_187 rfl rfl (by assumption) ?_
          refine mm_goto 22 dX8_plays_121 (by decide) ?_
          have hRx : R = (false, s, o + 1, p, 1, nI ((rdO (cc ty x) p (I1 (m + 6))).2.1 - p)) := by rw [← hR]; exact (if_pos hlt).trans (if_neg hfm)
          exact mm_G.at (ex0 (rdO (cc ty x) p (I1 (m + 6))).2.1 _ (by omega) (by rw [hRx]) ((((Wf.w (by decide) (by decide)).w (by decide) (by decide)).w (by decide) (by decide)).tx hT) ((mm_wr_k (by omega)).trans ((mm_wr_k (by omega)).trans ((mm_wr_k (by omega)).trans w9))) (by rw [hRx, mm_wr_row (by omega), mm_wr_row (by omega), mm_wr_row (by omega), W1]; exact e1) (by rw [hRx]; exact mm_wr_s) (by rw [hRx]; exact (mm_wr_k (by omega)).trans ((mm_wr_k (by omega)).trans ((mm_wr_k (by omega)).trans W10))) (by rw [hRx]; exact (mm_wr_k (by omega)).trans ((mm_wr_k (by omega)).trans mm_wr_s)) (by rw [hRx]; exact (mm_wr_k (by omega)).trans mm_wr_s) (((Wf.w (by decide) (by decide)).w (by decide) (by decide)).w (by decide) (by decide))) (mm_s1 rfl (mm_s1 rfl mm_s0))
        
  refine mm_aload_n dX8_plays_0 rfl rfl ?_
  refine mm_iconst 1 dX8_plays_1 rfl ?_
  refine mm_putZ dX8_plays_2 fl_X8_28 rfl rfl (Or.inr rfl) (by assumption) ?_
  refine mm_aload_n dX8_plays_5 rfl rfl ?_
  refine mm_iconst 0 dX8_plays_6 rfl ?_
  refine mm_putI dX8_plays_7 fl_X8_151 rfl rfl (by assumption) ?_
  refine mm_aload_n dX8_plays_10 rfl rfl ?_
  refine mm_iconst 0 dX8_plays_11 rfl ?_
  refine mm_putI dX8_plays_12 fl_X8_184 rfl rfl (by assumption) ?_
  refine mm_aload_n dX8_plays_15 rfl rfl ?_
  refine mm_iconst 0 dX8_plays_16 rfl ?_
  refine mm_putI dX8_plays_17 fl_X8_187 rfl rfl (by assumption) ?_
  refine mm_iconst 1 dX8_plays_20 rfl ?_
  refine mm_istore_n dX8_plays_21 rfl (Nat.le_of_ble_eq_true rfl) ?_
  exact mm_G.at (loop 61 0 0 _ _ (by omega) (by omega) hi0 (by rw [mm_wr_row (by omega), mm_wr_row (by omega), mm_wr_row (by omega), mm_wr_row (by omega)]; exact hR0) ((mm_wr_k (by omega)).trans ((mm_wr_k (by omega)).trans mm_wr_s)) (by rw [mm_wr_row (by omega), mm_wr_row (by omega), mm_wr_row (by omega), mm_wr_row (by omega)]) mm_wr_s ((mm_wr_k (by omega)).trans ((mm_wr_k (by omega)).trans ((mm_wr_k (by omega)).trans mm_wr_s))) ((((r_pl.rf.w (by decide) (by decide)).w (by decide) (by decide)).w (by decide) (by decide)).w (by decide) (by decide))) (mm_s1 rfl (mm_s1 rfl mm_s0))
