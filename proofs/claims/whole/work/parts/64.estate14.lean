/-! THE CLASS: more questions -/
def fb_end (x : Int32) (r : UInt32) (z : Int32) : Prop := vf_n32 (FP.fsub r FP.fconst1) ∧ vf_n32 (FP.fmul (FP.fsub r FP.fconst1) 1258291200) ∧ x <<< 23 ||| FP.f2i (FP.fmul (FP.fsub r FP.fconst1) 1258291200) = z
def fb_dn : Nat → Int32 → UInt32 → Int32 → Prop
  | 0, x, r, z => ¬ Op.cmpValue (FP.fcmp r FP.fconst1) .g < 0 ∧ fb_end x r z
  | n + 1, x, r, z => (¬ Op.cmpValue (FP.fcmp r FP.fconst1) .g < 0 ∧ fb_end x r z) ∨ (Op.cmpValue (FP.fcmp r FP.fconst1) .g < 0 ∧ vf_n32 (FP.fmul r FP.fconst2) ∧ fb_dn n (x + -1) (FP.fmul r FP.fconst2) z)
def fb_up : Nat → Int32 → UInt32 → Int32 → Prop
  | 0, x, r, z => Op.cmpValue (FP.fcmp r FP.fconst2) .l < 0 ∧ fb_dn 100 x r z
  | n + 1, x, r, z => (Op.cmpValue (FP.fcmp r FP.fconst2) .l < 0 ∧ fb_dn 100 x r z) ∨ (¬ Op.cmpValue (FP.fcmp r FP.fconst2) .l < 0 ∧ vf_n32 (FP.fdiv r FP.fconst2) ∧ fb_up n (x + 1) (FP.fdiv r FP.fconst2) z)
def fb_ok (v : UInt32) (z : Int32) : Prop := (Op.cmpValue (FP.fcmp v FP.fconst0) .l ≤ 0 ∧ z = 0) ∨ (¬ Op.cmpValue (FP.fcmp v FP.fconst0) .l ≤ 0 ∧ fb_up 100 127 v z)
/-- what the class's own bits of a float come to: proved of all means in a later part -/
def flB : Prop := ∀ p h, p ≤ 299700 → 0 < h → h ≤ 300 → fb_ok (flV p h) (flV p h).toInt32

set_option maxRecDepth 100000 in
set_option maxHeartbeats 4000000 in
theorem c_floatBits {S : mm_S} {I : mm_I} {v : UInt32} {z : Int32} (hz : fb_ok v z) : mm_ci mX7_floatBits [.float v] S I (fun q J => q = z ∧ J = I) := by
  refine mm_ci.of okX7_floatBits rfl (Nat.le_of_ble_eq_true rfl) (lv := [(0, .float v)]) rfl ?_
  have fend : ∀ (i : Nat) (x : Int32) (r : UInt32), fb_end x r z → mm_Gi mX7_floatBits (fun q J => q = z ∧ J = I) 67 [(3, .int (nI i)), (2, .int x), (1, .float r), (0, .float v)] [] S S I := by
    intro i x r h1
    refine mm_iload_n dX7_floatBits_67 rfl rfl ?_
    refine mm_bipush 23 dX7_floatBits_68 rfl ?_
    refine mm_ishl dX7_floatBits_70 ?_
    refine mm_fload_n dX7_floatBits_71 rfl rfl ?_
    refine mm_fconst1 dX7_floatBits_72 ?_
    refine mm_fsub dX7_floatBits_73 h1.1 ?_
    refine mm_ldcf dX7_floatBits_74 ct_X7_168 ?_
    refine mm_fmul dX7_floatBits_76 h1.2.1 ?_
    refine mm_f2i dX7_floatBits_77 ?_
    refine mm_ior dX7_floatBits_78 ?_
    refine mm_iret dX7_floatBits_79 rfl ?_
    exact ⟨rfl, _, rfl, h1.2.2, rfl⟩
  have fdn : ∀ (t i : Nat) (x : Int32) (r : UInt32), i + t < 126 → fb_dn t x r z → mm_Gi mX7_floatBits (fun q J => q = z ∧ J = I) 42 [(3, .int (nI i)), (2, .int x), (1, .float r), (0, .float v)] [] S S I := by
    intro t
    induction t with
    | zero =>
      intro i x r hi h1
      refine mm_iload_n dX7_floatBits_42 rfl rfl ?_
      refine mm_bipush 126 dX7_floatBits_43 rfl ?_
      refine mm_icmp_ge 67 dX7_floatBits_45 (by decide) (fun c_45 => absurd c_45 (nI_ge (b := 126) (by omega) (by omega))) (fun c_45 => ?_)
      refine mm_fload_n dX7_floatBits_48 rfl rfl ?_
      refine mm_fconst1 dX7_floatBits_49 ?_
      refine mm_fcmp dX7_floatBits_50 ?_
      refine mm_if_ge 67 dX7_floatBits_51 (by decide) (fun c_51 => ?_) (fun c_51 => absurd (Int32.not_lt.mp h1.1) c_51)
      exact mm_G.at (fend _ _ _ h1.2) (mm_s1 rfl (mm_s1 rfl (mm_s1 rfl (mm_s1 rfl mm_s0))))
    | succ t ih =>
      intro i x r hi h1
      rcases h1 with h1 | h1
      · skip
        refine mm_iload_n dX7_floatBits_42 rfl rfl ?_
        refine mm_bipush 126 dX7_floatBits_43 rfl ?_
        refine mm_icmp_ge 67 dX7_floatBits_45 (by decide) (fun c_45 => absurd c_45 (nI_ge (b := 126) (by omega) (by omega))) (fun c_45 => ?_)
        refine mm_fload_n dX7_floatBits_48 rfl rfl ?_
        refine mm_fconst1 dX7_floatBits_49 ?_
        refine mm_fcmp dX7_floatBits_50 ?_
        refine mm_if_ge 67 dX7_floatBits_51 (by decide) (fun c_51 => ?_) (fun c_51 => absurd (Int32.not_lt.mp h1.1) c_51)
        exact mm_G.at (fend _ _ _ h1.2) (mm_s1 rfl (mm_s1 rfl (mm_s1 rfl (mm_s1 rfl mm_s0))))
      · skip
        refine mm_iload_n dX7_floatBits_42 rfl rfl ?_
        refine mm_bipush 126 dX7_floatBits_43 rfl ?_
        refine mm_icmp_ge 67 dX7_floatBits_45 (by decide) (fun c_45 => absurd c_45 (nI_ge (b := 126) (by omega) (by omega))) (fun c_45 => ?_)
        refine mm_fload_n dX7_floatBits_48 rfl rfl ?_
        refine mm_fconst1 dX7_floatBits_49 ?_
        refine mm_fcmp dX7_floatBits_50 ?_
        refine mm_if_ge 67 dX7_floatBits_51 (by decide) (fun c_51 => absurd c_51 (Int32.not_le.mpr h1.1)) (fun c_51 => ?_)
        refine mm_fload_n dX7_floatBits_54 rfl rfl ?_
        refine mm_fconst2 dX7_floatBits_55 ?_
        refine mm_fmul dX7_floatBits_56 h1.2.1 ?_
        refine mm_fstore_n dX7_floatBits_57 rfl (Nat.le_of_ble_eq_true rfl) ?_
        refine mm_iinc (-1) dX7_floatBits_58 rfl rfl (Nat.le_of_ble_eq_true rfl) ?_
        refine mm_iinc 1 dX7_floatBits_61 rfl rfl (Nat.le_of_ble_eq_true rfl) ?_
        rw [nI_1]
        refine mm_goto 42 dX7_floatBits_64 (by decide) ?_
        exact mm_G.at (ih (i + 1) _ _ (by omega) h1.2.2) (mm_s1 rfl (mm_s1 rfl (mm_s1 rfl (mm_s1 rfl mm_s0))))
  have fup : ∀ (t i : Nat) (x : Int32) (r : UInt32), i + t < 127 → fb_up t x r z → mm_Gi mX7_floatBits (fun q J => q = z ∧ J = I) 15 [(3, .int (nI i)), (2, .int x), (1, .float r), (0, .float v)] [] S S I := by
    intro t
    induction t with
    | zero =>
      intro i x r hi h1
      refine mm_iload_n dX7_floatBits_15 rfl rfl ?_
      refine mm_bipush 127 dX7_floatBits_16 rfl ?_
      refine mm_icmp_ge 40 dX7_floatBits_18 (by decide) (fun c_18 => absurd c_18 (nI_ge (b := 127) (by omega) (by omega))) (fun c_18 => ?_)
      refine mm_fload_n dX7_floatBits_21 rfl rfl ?_
      refine mm_fconst2 dX7_floatBits_22 ?_
      refine mm_fcmp dX7_floatBits_23 ?_
      refine mm_if_lt 40 dX7_floatBits_24 (by decide) (fun c_24 => ?_) (fun c_24 => absurd h1.1 c_24)
      refine mm_iconst 0 dX7_floatBits_40 rfl ?_
      refine mm_istore_n dX7_floatBits_41 rfl (Nat.le_of_ble_eq_true rfl) ?_
      exact mm_G.at (fdn 100 0 _ _ (by omega) h1.2) (mm_s1 rfl (mm_s1 rfl (mm_s1 rfl (mm_s1 rfl mm_s0))))
    | succ t ih =>
      intro i x r hi h1
      rcases h1 with h1 | h1
      · skip
        refine mm_iload_n dX7_floatBits_15 rfl rfl ?_
        refine mm_bipush 127 dX7_floatBits_16 rfl ?_
        refine mm_icmp_ge 40 dX7_floatBits_18 (by decide) (fun c_18 => absurd c_18 (nI_ge (b := 127) (by omega) (by omega))) (fun c_18 => ?_)
        refine mm_fload_n dX7_floatBits_21 rfl rfl ?_
        refine mm_fconst2 dX7_floatBits_22 ?_
        refine mm_fcmp dX7_floatBits_23 ?_
        refine mm_if_lt 40 dX7_floatBits_24 (by decide) (fun c_24 => ?_) (fun c_24 => absurd h1.1 c_24)
        refine mm_iconst 0 dX7_floatBits_40 rfl ?_
        refine mm_istore_n dX7_floatBits_41 rfl (Nat.le_of_ble_eq_true rfl) ?_
        exact mm_G.at (fdn 100 0 _ _ (by omega) h1.2) (mm_s1 rfl (mm_s1 rfl (mm_s1 rfl (mm_s1 rfl mm_s0))))
      · skip
        refine mm_iload_n dX7_floatBits_15 rfl rfl ?_
        refine mm_bipush 127 dX7_floatBits_16 rfl ?_
        refine mm_icmp_ge 40 dX7_floatBits_18 (by decide) (fun c_18 => absurd c_18 (nI_ge (b := 127) (by omega) (by omega))) (fun c_18 => ?_)
        refine mm_fload_n dX7_floatBits_21 rfl rfl ?_
        refine mm_fconst2 dX7_floatBits_22 ?_
        refine mm_fcmp dX7_floatBits_23 ?_
        refine mm_if_lt 40 dX7_floatBits_24 (by decide) (fun c_24 => absurd c_24 h1.1) (fun c_24 => ?_)
        refine mm_fload_n dX7_floatBits_27 rfl rfl ?_
        refine mm_fconst2 dX7_floatBits_28 ?_
        refine mm_fdiv dX7_floatBits_29 h1.2.1 ?_
        refine mm_fstore_n dX7_floatBits_30 rfl (Nat.le_of_ble_eq_true rfl) ?_
        refine mm_iinc 1 dX7_floatBits_31 rfl rfl (Nat.le_of_ble_eq_true rfl) ?_
        refine mm_iinc 1 dX7_floatBits_34 rfl rfl (Nat.le_of_ble_eq_true rfl) ?_
        rw [nI_1]
        refine mm_goto 15 dX7_floatBits_37 (by decide) ?_
        exact mm_G.at (ih (i + 1) _ _ (by omega) h1.2.2) (mm_s1 rfl (mm_s1 rfl (mm_s1 rfl (mm_s1 rfl mm_s0))))
  rcases hz with h1 | h1
  · skip
    refine mm_fload_n dX7_floatBits_0 rfl rfl ?_
    refine mm_fconst0 dX7_floatBits_1 ?_
    refine mm_fcmp dX7_floatBits_2 ?_
    refine mm_if_gt 8 dX7_floatBits_3 (by decide) (fun c_3 => absurd c_3 (Int32.not_lt.mpr h1.1)) (fun c_3 => ?_)
    refine mm_iconst 0 dX7_floatBits_6 rfl ?_
    refine mm_iret dX7_floatBits_7 rfl ?_
    exact ⟨rfl, _, rfl, h1.2.symm, rfl⟩
  · skip
    refine mm_fload_n dX7_floatBits_0 rfl rfl ?_
    refine mm_fconst0 dX7_floatBits_1 ?_
    refine mm_fcmp dX7_floatBits_2 ?_
    refine mm_if_gt 8 dX7_floatBits_3 (by decide) (fun c_3 => ?_) (fun c_3 => absurd (Int32.not_le.mp h1.1) c_3)
    refine mm_fload_n dX7_floatBits_8 rfl rfl ?_
    refine mm_fstore_n dX7_floatBits_9 rfl (Nat.le_of_ble_eq_true rfl) ?_
    refine mm_bipush 127 dX7_floatBits_10 rfl ?_
    refine mm_istore_n dX7_floatBits_12 rfl (Nat.le_of_ble_eq_true rfl) ?_
    refine mm_iconst 0 dX7_floatBits_13 rfl ?_
    refine mm_istore_n dX7_floatBits_14 rfl (Nat.le_of_ble_eq_true rfl) ?_
    exact mm_G.at (fup 100 0 _ _ (by omega) h1.2) (mm_s1 rfl (mm_s1 rfl (mm_s1 rfl (mm_s1 rfl mm_s0))))
