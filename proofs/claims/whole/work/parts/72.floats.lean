/-! FLOATS: the quotient is no NaN, and the class's bits of it are its bits -/
theorem zf_val {x : UInt32} (h1 : 2 ^ 23 ≤ x.toNat) (h2 : x.toNat < 255 * 2 ^ 23) : Jvm.FP.Core.val32 x = .fin false (2 ^ 23 + x.toNat % 2 ^ 23) (((x.toNat / 2 ^ 23 : Nat) : Int) - 150) := by
  have hE : Jvm.FP.Core.fieldE Jvm.FP.Core.b32 x.toNat = x.toNat / 2 ^ 23 := by
    show x.toNat / 2 ^ 23 % 256 = _
    omega
  have hS : Jvm.FP.Core.fieldS Jvm.FP.Core.b32 x.toNat = false := by
    show (x.toNat / 2 ^ 23 / 256 % 2 == 1) = false
    rw [show x.toNat / 2 ^ 23 / 256 = 0 by omega]
    rfl
  show Jvm.FP.Core.decode Jvm.FP.Core.b32 x.toNat = _
  unfold Jvm.FP.Core.decode
  rw [hE, hS, if_neg (show ¬ x.toNat / 2 ^ 23 = Jvm.FP.Core.b32.exps - 1 by rw [Jvm.FP.Core.exps_b32]; omega), if_neg (by omega)]
  show Jvm.FP.Core.Datum.fin false (2 ^ 23 + x.toNat % 2 ^ 23) (2 - 127 - 24 + (((x.toNat / 2 ^ 23 : Nat) : Int) - 1)) = _
  congr 1
  omega
theorem zf_fits {c : Nat} {q : Int} (h1 : c < 2 ^ 24) (h2 : -149 ≤ q) (h3 : q ≤ 104) (h4 : 2 ^ 23 ≤ c) : Jvm.FP.Core.fits Jvm.FP.Core.b32 (.fin false c q) := ⟨h1, h2, h3, Or.inr h4⟩
theorem zf_c2 : Jvm.FP.Core.val32 FP.fconst2 = .fin false (2 ^ 23) (-22) := by decide +kernel
theorem zf_c1 : Jvm.FP.Core.val32 FP.fconst1 = .fin false (2 ^ 23) (-23) := by decide +kernel
theorem zf_c0 : Jvm.FP.Core.val32 FP.fconst0 = .fin false 0 (-149) := by decide +kernel
theorem zf_cb : Jvm.FP.Core.val32 1258291200 = .fin false (2 ^ 23) 0 := by decide +kernel
theorem zf_half {x y : UInt32} (h1 : 2 * 2 ^ 23 ≤ x.toNat) (h2 : x.toNat < 255 * 2 ^ 23) (hy : y.toNat = x.toNat - 2 ^ 23) : FP.fdiv x FP.fconst2 = y := by
  have hx := zf_val (x := x) (by omega) h2
  have hv := zf_val (x := y) (by omega) (by omega)
  refine (Jvm.FP.Core.val32_inj (a := y) (b := FP.fdiv x FP.fconst2) (by rw [hv]; exact fun q => by cases q) ?_).symm
  show _ = Jvm.FP.Core.val32 (Jvm.FP.Core.fdiv x FP.fconst2)
  rw [Jvm.FP.Core.val32_fdiv, hx, zf_c2, hv]
  have hqu : ∀ (c : Nat) (q : Int), Jvm.FP.Core.quotient Jvm.FP.Core.b32 (.fin false c q) (.fin false (2 ^ 23) (-22)) = Jvm.FP.Core.roundRatio Jvm.FP.Core.b32 (false != false) c (2 ^ 23) (q - -22) := fun c q => by
    have hd : ∀ d : Nat, ¬ d = 0 → Jvm.FP.Core.quotient Jvm.FP.Core.b32 (.fin false c q) (.fin false d (-22)) = Jvm.FP.Core.roundRatio Jvm.FP.Core.b32 (false != false) c d (q - -22) := fun d hd => by simp only [Jvm.FP.Core.quotient, if_neg hd]
    exact hd _ (by decide)
  rw [hqu]
  rw [show y.toNat % 2 ^ 23 = x.toNat % 2 ^ 23 by omega, show (((y.toNat / 2 ^ 23 : Nat) : Int) - 150) = (((x.toNat / 2 ^ 23 : Nat) : Int) - 150) - 1 by omega]
  have hq : ∀ q : Int, -148 ≤ q → q ≤ 104 → Jvm.FP.Core.Datum.fin false (2 ^ 23 + x.toNat % 2 ^ 23) (q - 1) = Jvm.FP.Core.roundRatio Jvm.FP.Core.b32 (false != false) (2 ^ 23 + x.toNat % 2 ^ 23) (2 ^ 23) (q - -22) := fun q h3 h4 =>
    (Jvm.FP.Core.roundRatio_exact Jvm.FP.Core.good_b32 (by decide) (zf_fits (by omega) (by omega) (by omega) (by omega)) (by
      rw [show (q - -22 - (q - 1)).toNat = 23 by omega, show (q - 1 - (q - -22)).toNat = 0 by omega]
      omega)).symm
  exact hq _ (by omega) (by omega)
theorem zf_dbl {x y : UInt32} (h1 : 2 ^ 23 ≤ x.toNat) (h2 : x.toNat < 254 * 2 ^ 23) (hy : y.toNat = x.toNat + 2 ^ 23) : FP.fmul x FP.fconst2 = y := by
  have hx := zf_val (x := x) (by omega) (by omega)
  have hv := zf_val (x := y) (by omega) (by omega)
  refine (Jvm.FP.Core.val32_inj (a := y) (b := FP.fmul x FP.fconst2) (by rw [hv]; exact fun q => by cases q) ?_).symm
  show _ = Jvm.FP.Core.val32 (Jvm.FP.Core.fmul x FP.fconst2)
  rw [Jvm.FP.Core.val32_fmul, hx, zf_c2, hv]
  rw [show y.toNat % 2 ^ 23 = x.toNat % 2 ^ 23 by omega, show (((y.toNat / 2 ^ 23 : Nat) : Int) - 150) = (((x.toNat / 2 ^ 23 : Nat) : Int) - 150) + 1 by omega]
  have hq : ∀ q : Int, -150 ≤ q → q ≤ 103 → Jvm.FP.Core.Datum.fin false (2 ^ 23 + x.toNat % 2 ^ 23) (q + 1) = Jvm.FP.Core.roundRatio Jvm.FP.Core.b32 (false != false) ((2 ^ 23 + x.toNat % 2 ^ 23) * 2 ^ 23) 1 (q + -22) := fun q h3 h4 =>
    (Jvm.FP.Core.roundRatio_exact Jvm.FP.Core.good_b32 (by decide) (zf_fits (by omega) (by omega) (by omega) (by omega)) (by
      rw [show (q + -22 - (q + 1)).toNat = 0 by omega, show (q + 1 - (q + -22)).toNat = 23 by omega]
      omega)).symm
  exact hq _ (by omega) (by omega)
theorem zf_n32 {x : UInt32} (h : x.toNat < 255 * 2 ^ 23) : vf_n32 x := by
  show x &&& 0x7fffffff ≤ 0x7f800000
  rw [UInt32.le_iff_toNat_le, UInt32.toNat_and]
  have q := Nat.and_le_left (n := x.toNat) (m := (0x7fffffff : UInt32).toNat)
  have q2 : (0x7f800000 : UInt32).toNat = 255 * 2 ^ 23 := by decide
  omega
theorem zf_nn {x : UInt32} (h : x.toNat < 255 * 2 ^ 23) : Jvm.FP.Core.val32 x ≠ .nan := (Jvm.FP.Core.ne_nan32 x).mpr (by omega)
theorem zf_cmp {x y : UInt32} (hx : x.toNat < 255 * 2 ^ 23) (hy : y.toNat < 255 * 2 ^ 23) : FP.fcmp x y = some (compare (x.toNat : Int) (y.toNat : Int)) := by
  have q := Jvm.FP.Core.fcmp_key (zf_nn hx) (zf_nn hy)
  have k : ∀ z : UInt32, z.toNat < 255 * 2 ^ 23 → Jvm.FP.Core.fkey z = (z.toNat : Int) := fun z hz => if_neg (by omega)
  rw [k x hx, k y hy] at q
  exact q
theorem zf_lt {x y : UInt32} {o : ClassFile.CmpOp} (hx : x.toNat < 255 * 2 ^ 23) (hy : y.toNat < 255 * 2 ^ 23) : Op.cmpValue (FP.fcmp x y) o < 0 ↔ x.toNat < y.toNat := by
  rw [zf_cmp hx hy]
  show Op.cmpValue (some (compare (x.toNat : Int) (y.toNat : Int))) o < 0 ↔ _
  simp only [compare, compareOfLessAndEq]
  by_cases h1 : x.toNat < y.toNat
  · rw [if_pos (by omega)]
    exact ⟨fun _ => h1, fun _ => (by decide : (-1 : Int32) < 0)⟩
  · rw [if_neg (by omega)]
    by_cases h2 : x.toNat = y.toNat
    · rw [if_pos (by omega)]
      exact ⟨fun q => absurd q (by decide : ¬ (0 : Int32) < 0), fun q => absurd q h1⟩
    · rw [if_neg (by omega)]
      exact ⟨fun q => absurd q (by decide : ¬ (1 : Int32) < 0), fun q => absurd q h1⟩
theorem zf_le {x y : UInt32} {o : ClassFile.CmpOp} (hx : x.toNat < 255 * 2 ^ 23) (hy : y.toNat < 255 * 2 ^ 23) : Op.cmpValue (FP.fcmp x y) o ≤ 0 ↔ x.toNat ≤ y.toNat := by
  rw [zf_cmp hx hy]
  show Op.cmpValue (some (compare (x.toNat : Int) (y.toNat : Int))) o ≤ 0 ↔ _
  simp only [compare, compareOfLessAndEq]
  by_cases h1 : x.toNat < y.toNat
  · rw [if_pos (by omega)]
    exact ⟨fun _ => by omega, fun _ => (by decide : (-1 : Int32) ≤ 0)⟩
  · rw [if_neg (by omega)]
    by_cases h2 : x.toNat = y.toNat
    · rw [if_pos (by omega)]
      exact ⟨fun q => by omega, fun _ => (by decide : (0 : Int32) ≤ 0)⟩
    · rw [if_neg (by omega)]
      exact ⟨fun q => absurd q (by decide : ¬ (1 : Int32) ≤ 0), fun q => absurd q (by omega)⟩
theorem zf_t0 : FP.fconst0.toNat = 0 := by decide
theorem zf_t1 : FP.fconst1.toNat = 127 * 2 ^ 23 := by decide
theorem zf_t2 : FP.fconst2.toNat = 128 * 2 ^ 23 := by decide
/-- the fraction of a number from 1 up to 2, as a whole number -/
theorem zf_frac {x : UInt32} (h1 : 127 * 2 ^ 23 ≤ x.toNat) (h2 : x.toNat < 128 * 2 ^ 23) : vf_n32 (FP.fsub x FP.fconst1) ∧ vf_n32 (FP.fmul (FP.fsub x FP.fconst1) 1258291200) ∧ FP.f2i (FP.fmul (FP.fsub x FP.fconst1) 1258291200) = nI (x.toNat % 2 ^ 23) := by
  have hx := zf_val (x := x) (by omega) (by omega)
  rw [show (((x.toNat / 2 ^ 23 : Nat) : Int) - 150) = -23 by omega] at hx
  have hT : x.toNat % 2 ^ 23 < 2 ^ 23 := Nat.mod_lt _ (by decide)
  generalize x.toNat % 2 ^ 23 = T at hx hT ⊢
  have hs : Jvm.FP.Core.val32 (Jvm.FP.Core.fsub x FP.fconst1) = Jvm.FP.Core.round Jvm.FP.Core.b32 (.fin false T (-23)) := by
    rw [Jvm.FP.Core.val32_fsub, hx, zf_c1]
    show Jvm.FP.Core.round Jvm.FP.Core.b32 (.fin (Jvm.FP.Core.sumSign false true (Jvm.FP.Core.sumUnits false (2 ^ 23 + T) (-23) true (2 ^ 23) (-23) (-23))) (Jvm.FP.Core.sumUnits false (2 ^ 23 + T) (-23) true (2 ^ 23) (-23) (-23)).natAbs (-23)) = _
    have hu : Jvm.FP.Core.sumUnits false (2 ^ 23 + T) (-23) true (2 ^ 23) (-23) (-23) = (T : Int) := by
      show (((2 ^ 23 + T) * 2 ^ 0 : Nat) : Int) + -((2 ^ 23 * 2 ^ 0 : Nat) : Int) = (T : Int)
      omega
    rw [hu]
    have hg : Jvm.FP.Core.sumSign false true (T : Int) = false := by
      unfold Jvm.FP.Core.sumSign
      by_cases h0 : (T : Int) = 0
      · rw [if_pos h0]; rfl
      · rw [if_neg h0]; exact decide_eq_false (by omega)
    rw [hg]
    rfl
  obtain ⟨c, q, hc, hcu⟩ := Jvm.FP.Core.round_exact Jvm.FP.Core.good_b32 false (c := T) (q := -23) (by show T < 2 ^ 24; omega) (by decide) (by decide)
  rw [hc] at hs
  have hfit : Jvm.FP.Core.fits Jvm.FP.Core.b32 (.fin false c q) := by rw [← hs]; exact Jvm.FP.Core.val32_fits _
  have hq149 : -149 ≤ q := hfit.2.1
  have hcu2 : c * 2 ^ (q + 149).toNat = T * 2 ^ 126 := by
    have e1 : (q - Jvm.FP.Core.b32.qmin).toNat = (q + 149).toNat := by congr 1
    have e2 : ((-23 : Int) - Jvm.FP.Core.b32.qmin).toNat = 126 := by decide
    unfold Jvm.FP.Core.inUnits at hcu
    rw [e1, e2] at hcu
    exact hcu
  have hm : Jvm.FP.Core.Whole (T : Int) (Jvm.FP.Core.exactProduct (.fin false c q) (.fin false (2 ^ 23) 0)) := by
    show Jvm.FP.Core.signed (false != false) (c * 2 ^ 23 * 2 ^ (q + 0).toNat) = (T : Int) * ((2 ^ (-(q + 0)).toNat : Nat) : Int)
    show ((c * 2 ^ 23 * 2 ^ (q + 0).toNat : Nat) : Int) = _
    rw [← Int.natCast_mul]
    congr 1
    have p1 : 0 < 2 ^ 126 := Nat.two_pow_pos 126
    rw [Int.add_zero]
    by_cases h0 : 0 ≤ q
    · have e1 : (q + 149).toNat = q.toNat + 149 := by omega
      rw [show (-q).toNat = 0 by omega, Nat.pow_zero, Nat.mul_one]
      rw [e1, Nat.pow_add, ← Nat.mul_assoc] at hcu2
      refine Nat.eq_of_mul_eq_mul_right p1 ?_
      rw [← hcu2, show (149 : Nat) = 23 + 126 from rfl, Nat.pow_add]
      ac_rfl
    · rw [show q.toNat = 0 by omega, Nat.pow_zero, Nat.mul_one]
      have e1 : (q + 149).toNat + (-q).toNat = 149 := by omega
      refine Nat.eq_of_mul_eq_mul_right p1 ?_
      have e2 : 2 ^ (q + 149).toNat * 2 ^ (-q).toNat = 2 ^ 149 := by rw [← Nat.pow_add, e1]
      have e3 : T * 2 ^ (-q).toNat * 2 ^ 126 = T * 2 ^ 126 * 2 ^ (-q).toNat := by ac_rfl
      have e4 : c * 2 ^ (q + 149).toNat * 2 ^ (-q).toNat = c * 2 ^ 149 := by rw [Nat.mul_assoc, e2]
      rw [e3, ← hcu2, e4, show (149 : Nat) = 23 + 126 from rfl, Nat.pow_add]
      ac_rfl
  have hi : Jvm.FP.Core.FInt (T : Int) (Jvm.FP.Core.fmul (Jvm.FP.Core.fsub x FP.fconst1) 1258291200) := by
    unfold Jvm.FP.Core.FInt
    rw [Jvm.FP.Core.val32_fmul, hs, zf_cb]
    exact Jvm.FP.Core.whole_round Jvm.FP.Core.good_b32 Jvm.FP.Core.wide_b32 (show _ ≤ 2 ^ 24 by omega) hm
  have n32 : ∀ y : UInt32, Jvm.FP.Core.val32 y ≠ .nan → vf_n32 y := fun y hy => by
    have q1 := (Jvm.FP.Core.ne_nan32 y).mp hy
    show y &&& 0x7fffffff ≤ 0x7f800000
    rw [UInt32.le_iff_toNat_le, UInt32.toNat_and, show (0x7fffffff : UInt32).toNat = 2 ^ 31 - 1 by decide, Nat.and_two_pow_sub_one_eq_mod]
    exact q1
  refine ⟨n32 _ ?_, n32 _ (Jvm.FP.Core.FInt_ne_nan hi), ?_⟩
  · show Jvm.FP.Core.val32 (Jvm.FP.Core.fsub x FP.fconst1) ≠ .nan
    rw [hs]; exact fun q => by cases q
  · exact Jvm.FP.Core.f2i_int (a := nI T) (by rw [nI_toInt (by omega)]; exact hi)

theorem zf_dn {T x0 : Nat} : ∀ (n E x : Nat) (r : UInt32), 127 ≤ E + n → E ≤ 127 → 1 ≤ E → T < 2 ^ 23 → x + E = x0 + 127 → 1 ≤ x0 → x0 < 2 ^ 10 → r.toNat = E * 2 ^ 23 + T → fb_dn n (nI x) r (nI x0 <<< 23 ||| nI T)
  | n, E, x, r, hn, hE, h1, hT, hx, hx0, hxx, hr => by
    have hnd : E = 127 → ¬ Op.cmpValue (FP.fcmp r FP.fconst1) .g < 0 ∧ fb_end (nI x) r (nI x0 <<< 23 ||| nI T) := fun e => by
      subst e
      refine ⟨fun q => ?_, ?_⟩
      · have := (zf_lt (by omega) (by rw [zf_t1]; omega)).mp q
        rw [zf_t1] at this
        omega
      · obtain ⟨q1, q2, q3⟩ := zf_frac (x := r) (by omega) (by omega)
        refine ⟨q1, q2, ?_⟩
        rw [q3, show r.toNat % 2 ^ 23 = T by omega, show x = x0 by omega]
    cases n with
    | zero => exact hnd (by omega)
    | succ n =>
      by_cases e : E = 127
      · exact Or.inl (hnd e)
      · have hl : Op.cmpValue (FP.fcmp r FP.fconst1) .g < 0 := (zf_lt (by omega) (by rw [zf_t1]; omega)).mpr (by rw [zf_t1]; omega)
        have hb : (UInt32.ofNat (r.toNat + 2 ^ 23)).toNat = r.toNat + 2 ^ 23 := UInt32.toNat_ofNat_of_lt' (by show r.toNat + 2 ^ 23 < 4294967296; omega)
        have hd := zf_dbl (x := r) (y := UInt32.ofNat (r.toNat + 2 ^ 23)) (by omega) (by omega) hb
        refine Or.inr ⟨hl, by rw [hd]; exact zf_n32 (by omega), ?_⟩
        rw [hd, show nI x + -1 = nI (x - 1) from nI_addneg (b := 1) (by omega)]
        exact zf_dn n (E + 1) (x - 1) _ (by omega) (by omega) (by omega) hT (by omega) hx0 (by omega) (by rw [hb]; omega)
theorem zf_up {T x0 : Nat} : ∀ (n E x : Nat) (r : UInt32), E ≤ 127 + n → E ≤ 253 → 27 ≤ E → T < 2 ^ 23 → x + E = x0 + 127 → 1 ≤ x0 → x0 < 2 ^ 10 → r.toNat = E * 2 ^ 23 + T → fb_up n (nI x) r (nI x0 <<< 23 ||| nI T)
  | n, E, x, r, hn, hE, h1, hT, hx, hx0, hxx, hr => by
    have hnd : E ≤ 127 → Op.cmpValue (FP.fcmp r FP.fconst2) .l < 0 ∧ fb_dn 100 (nI x) r (nI x0 <<< 23 ||| nI T) := fun e =>
      ⟨(zf_lt (by omega) (by rw [zf_t2]; omega)).mpr (by rw [zf_t2]; omega), zf_dn 100 E x r (by omega) e (by omega) hT hx hx0 (by omega) hr⟩
    cases n with
    | zero => exact hnd (by omega)
    | succ n =>
      by_cases e : E ≤ 127
      · exact Or.inl (hnd e)
      · have hl : ¬ Op.cmpValue (FP.fcmp r FP.fconst2) .l < 0 := fun q => by
          have := (zf_lt (by omega) (by rw [zf_t2]; omega)).mp q
          rw [zf_t2] at this
          omega
        have hb : (UInt32.ofNat (r.toNat - 2 ^ 23)).toNat = r.toNat - 2 ^ 23 := UInt32.toNat_ofNat_of_lt' (by show r.toNat - 2 ^ 23 < 4294967296; omega)
        have hd := zf_half (x := r) (y := UInt32.ofNat (r.toNat - 2 ^ 23)) (by omega) (by omega) hb
        refine Or.inr ⟨hl, by rw [hd]; exact zf_n32 (by omega), ?_⟩
        rw [hd, nI_1]
        exact zf_up n (E - 1) (x + 1) _ (by omega) (by omega) (by omega) hT (by omega) hx0 (by omega) (by rw [hb]; omega)
theorem zf_bits {E T : Nat} (hE : E < 2 ^ 8) (hT : T < 2 ^ 23) : nI E <<< 23 ||| nI T = (UInt32.ofNat (E * 2 ^ 23 + T)).toInt32 := by
  have hm : ∀ n, (UInt32.ofNat n).toInt32 = nI n := fun n => rfl
  rw [hm]
  have hs : nI E <<< 23 = nI (E * 2 ^ 23) := by
    apply Int32.toBitVec_inj.mp
    rw [Int32.toBitVec_shiftLeft]
    show BitVec.ofNat 32 E <<< (23 : Nat) = BitVec.ofNat 32 (E * 2 ^ 23)
    apply BitVec.eq_of_toNat_eq
    rw [BitVec.toNat_shiftLeft, BitVec.toNat_ofNat, BitVec.toNat_ofNat, Nat.shiftLeft_eq]
    omega
  rw [hs]
  apply Int32.toBitVec_inj.mp
  rw [Int32.toBitVec_or]
  show BitVec.ofNat 32 (E * 2 ^ 23) ||| BitVec.ofNat 32 T = BitVec.ofNat 32 (E * 2 ^ 23 + T)
  apply BitVec.eq_of_toNat_eq
  rw [BitVec.toNat_or, BitVec.toNat_ofNat, BitVec.toNat_ofNat, BitVec.toNat_ofNat, Nat.mod_eq_of_lt (by omega), Nat.mod_eq_of_lt (by omega), Nat.mod_eq_of_lt (by omega), Nat.mul_comm E, Nat.two_pow_add_eq_or_of_lt hT]
theorem zf_int {n : Nat} (hn : n < 2 ^ 24) : ∃ c q, Jvm.FP.Core.val32 (FP.i2f (nI n)) = .fin false c q ∧ -149 ≤ q ∧ c * 2 ^ (q + 149).toNat = n * 2 ^ 149 := by
  obtain ⟨c, q, hc, hcu⟩ := Jvm.FP.Core.round_exact Jvm.FP.Core.good_b32 false (c := n) (q := 0) hn (by decide) (by decide)
  have hs : Jvm.FP.Core.val32 (Jvm.FP.Core.i2f (nI n)) = .fin false c q := by
    rw [Jvm.FP.Core.val32_i2f, nI_toInt (by omega), ← hc]
    show Jvm.FP.Core.round Jvm.FP.Core.b32 (.fin (decide ((n : Int) < 0)) (n : Int).natAbs 0) = _
    rw [decide_eq_false (by omega), Int.natAbs_natCast]
  have hfit : Jvm.FP.Core.fits Jvm.FP.Core.b32 (.fin false c q) := by rw [← hs]; exact Jvm.FP.Core.val32_fits _
  refine ⟨c, q, hs, hfit.2.1, ?_⟩
  have e1 : (q - Jvm.FP.Core.b32.qmin).toNat = (q + 149).toNat := by congr 1
  have e2 : ((0 : Int) - Jvm.FP.Core.b32.qmin).toNat = 149 := by decide
  unfold Jvm.FP.Core.inUnits at hcu
  rw [e1, e2] at hcu
  exact hcu
theorem zf_quo {p h : Nat} (hp : p < 2 ^ 24) (hh : h < 2 ^ 24) (h0 : 0 < h) : Jvm.FP.Core.val32 (flV p h) = Jvm.FP.Core.roundRatio Jvm.FP.Core.b32 false p h 0 := by
  obtain ⟨c, q, hc, hq, hcu⟩ := zf_int hp
  obtain ⟨d, r, hd, hr, hdu⟩ := zf_int hh
  have d0 : ¬ d = 0 := fun e => by
    subst e
    rw [Nat.zero_mul] at hdu
    have := Nat.mul_pos h0 (Nat.two_pow_pos 149)
    omega
  show Jvm.FP.Core.val32 (Jvm.FP.Core.fdiv _ _) = _
  rw [Jvm.FP.Core.val32_fdiv]
  show Jvm.FP.Core.quotient Jvm.FP.Core.b32 (Jvm.FP.Core.val32 (FP.i2f (nI p))) (Jvm.FP.Core.val32 (FP.i2f (nI h))) = _
  rw [hc, hd]
  simp only [Jvm.FP.Core.quotient, if_neg d0]
  refine Jvm.FP.Core.roundRatio_congr (by omega) h0 ?_
  have key : (c * 2 ^ (q + 149).toNat) * (h * 2 ^ 149) = (p * 2 ^ 149) * (d * 2 ^ (r + 149).toNat) := by rw [hcu, hdu]
  have p1 : 0 < 2 ^ 149 := Nat.two_pow_pos 149
  by_cases hab : r ≤ q
  · have e1 : (q - r - 0).toNat + (r + 149).toNat = (q + 149).toNat := by omega
    rw [show (0 - (q - r)).toNat = 0 by omega, Nat.pow_zero, Nat.mul_one]
    have p2 : 0 < 2 ^ (r + 149).toNat * 2 ^ 149 := Nat.mul_pos (Nat.two_pow_pos _) p1
    refine Nat.eq_of_mul_eq_mul_right p2 ?_
    calc c * h * 2 ^ (q - r - 0).toNat * (2 ^ (r + 149).toNat * 2 ^ 149) = (c * (2 ^ (q - r - 0).toNat * 2 ^ (r + 149).toNat)) * (h * 2 ^ 149) := by ac_rfl
      _ = (c * 2 ^ (q + 149).toNat) * (h * 2 ^ 149) := by rw [← Nat.pow_add, e1]
      _ = (p * 2 ^ 149) * (d * 2 ^ (r + 149).toNat) := key
      _ = p * d * (2 ^ (r + 149).toNat * 2 ^ 149) := by ac_rfl
  · have e1 : (0 - (q - r)).toNat + (q + 149).toNat = (r + 149).toNat := by omega
    rw [show (q - r - 0).toNat = 0 by omega, Nat.pow_zero, Nat.mul_one]
    have p2 : 0 < 2 ^ (q + 149).toNat * 2 ^ 149 := Nat.mul_pos (Nat.two_pow_pos _) p1
    refine Nat.eq_of_mul_eq_mul_right p2 ?_
    calc c * h * (2 ^ (q + 149).toNat * 2 ^ 149) = (c * 2 ^ (q + 149).toNat) * (h * 2 ^ 149) := by ac_rfl
      _ = (p * 2 ^ 149) * (d * 2 ^ (r + 149).toNat) := key
      _ = (p * 2 ^ 149) * (d * (2 ^ (0 - (q - r)).toNat * 2 ^ (q + 149).toNat)) := by rw [← Nat.pow_add, e1]
      _ = p * d * 2 ^ (0 - (q - r)).toNat * (2 ^ (q + 149).toNat * 2 ^ 149) := by ac_rfl
theorem zf_range {p h : Nat} (hp : p ≤ 299700) (h0 : 0 < h) (hh : h ≤ 300) (hp0 : 0 < p) : 100 * 2 ^ 23 ≤ (flV p h).toNat ∧ (flV p h).toNat ≤ 200 * 2 ^ 23 := by
  have hv := zf_quo (p := p) (h := h) (by omega) (by omega) h0
  have hd : Jvm.FP.Core.decode Jvm.FP.Core.b32 (flV p h).toNat = Jvm.FP.Core.roundRatio Jvm.FP.Core.b32 false p h 0 := hv
  have hu : ∀ K, 1 ≤ K → Jvm.FP.Core.unitsOf Jvm.FP.Core.b32 (K * 2 ^ 23) = 2 ^ 23 * 2 ^ (K - 1) := fun K hK => Jvm.FP.Core.unitsOf_start hK
  have hin : Jvm.FP.Core.inUnits p 0 (-149) = p * 2 ^ 149 := rfl
  have lo := Jvm.FP.Core.mag_ge Jvm.FP.Core.good_b32 (m := 100 * 2 ^ 23) (e0 := -149) hd h0 (by decide) (by decide) (by decide) (by
    rw [hu 100 (by decide), hin, show (Jvm.FP.Core.b32.qmin - -149).toNat = 0 by decide, Nat.pow_zero, Nat.mul_one]
    calc 2 ^ 23 * 2 ^ (100 - 1) * h ≤ 2 ^ 23 * 2 ^ (100 - 1) * 300 := Nat.mul_le_mul_left _ hh
      _ ≤ 1 * 2 ^ 149 := by decide
      _ ≤ p * 2 ^ 149 := Nat.mul_le_mul_right _ hp0)
  have hi := Jvm.FP.Core.mag_le Jvm.FP.Core.good_b32 (m := 200 * 2 ^ 23) (e0 := -149) hd h0 (by decide) (by decide) (by
    rw [hu 200 (by decide), hin, show (Jvm.FP.Core.b32.qmin - -149).toNat = 0 by decide, Nat.pow_zero, Nat.mul_one]
    calc p * 2 ^ 149 ≤ 299700 * 2 ^ 149 := Nat.mul_le_mul_right _ hp
      _ ≤ 2 ^ 23 * 2 ^ (200 - 1) * 1 := by decide
      _ ≤ 2 ^ 23 * 2 ^ (200 - 1) * h := Nat.mul_le_mul_left _ h0)
  rw [Jvm.FP.Core.mag_toNat32] at lo hi
  have hnn : Jvm.FP.Core.val32 (flV p h) ≠ .nan := by rw [hv]; exact Jvm.FP.Core.roundRatio_ne_nan _ _ _ _ _
  have hsg := Jvm.FP.Core.sgn_bits32 hnn
  rw [hv, Jvm.FP.Core.sgn_roundRatio] at hsg
  have hlt := of_decide_eq_false hsg.symm
  omega
theorem zf_zero {h : Nat} (h0 : 0 < h) (hh : h ≤ 300) : flV 0 h = 0 := by
  have hv := zf_quo (p := 0) (h := h) (by omega) (by omega) h0
  have hz : Jvm.FP.Core.roundRatio Jvm.FP.Core.b32 false 0 h 0 = .fin false 0 (-149) := rfl
  rw [hz] at hv
  exact Jvm.FP.Core.val32_inj (by rw [hv]; exact fun q => by cases q) (hv.trans zf_c0.symm)
theorem zf_flH : flH := fun p h hp h0 hh => by
  rcases Nat.eq_zero_or_pos p with e | e
  · subst e
    rw [zf_zero h0 hh]
    exact ⟨by show (0 : UInt32) &&& 0x7fffffff ≤ 0x7f800000; decide, by decide +kernel⟩
  · obtain ⟨q1, q2⟩ := zf_range hp h0 hh e
    exact ⟨zf_n32 (by omega), Jvm.FP.Core.fcmp_self (zf_nn (by omega))⟩
theorem zf_flB : flB := fun p h hp h0 hh => by
  rcases Nat.eq_zero_or_pos p with e | e
  · subst e
    rw [zf_zero h0 hh]
    exact Or.inl ⟨by decide +kernel, rfl⟩
  · obtain ⟨q1, q2⟩ := zf_range hp h0 hh e
    generalize flV p h = v at q1 q2 ⊢
    have hT : v.toNat % 2 ^ 23 < 2 ^ 23 := Nat.mod_lt _ (by decide)
    refine Or.inr ⟨fun q => ?_, ?_⟩
    · have := (zf_le (by omega) (by rw [zf_t0]; omega)).mp q
      rw [zf_t0] at this
      omega
    · have hz : v.toInt32 = nI (v.toNat / 2 ^ 23) <<< 23 ||| nI (v.toNat % 2 ^ 23) := by
        rw [zf_bits (by omega) hT]
        congr 1
        apply UInt32.toNat_inj.mp
        rw [UInt32.toNat_ofNat_of_lt' (by show _ < 4294967296; omega)]
        omega
      rw [hz]
      exact zf_up 100 (v.toNat / 2 ^ 23) 127 v (by omega) (by omega) (by omega) hT (by omega) (by omega) (by omega) (by omega)
