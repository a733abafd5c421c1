section mmAlloc
variable {X : mm_X} {M : mm_M} {mc ms pc : Nat} {lv : List (Nat × Value)} {st : List Value} {S : mm_S} {I : mm_I} {cl sl : Nat}
theorem mm_dflt : ∀ c, c < 9 → ∀ k, k < mm_cn c → defaultValue (mm_cy c k) = if mm_int c k = true then .int 0 else .null := mm_c9 (by decide) (by decide) (by decide) (by decide) (by decide) (by decide) (by decide) (by decide) (by decide)
abbrev mm_push (S : mm_S) (kd : Nat × Nat) : mm_S := (S.1 + 1, va_up S.2.1 S.1 kd, S.2.2)
theorem mm_e_push {cA : Nat → ClassId} {kd : Nat × Nat} {b : Nat} (hb : b < S.1) : mm_e cA (mm_push S kd) I b = mm_e cA S I b := by
  have h : va_up S.2.1 S.1 kd b = S.2.1 b := by simp [va_up, Nat.ne_of_lt hb]
  unfold mm_e mm_fv mm_push
  simp only [h]
theorem mm_push_at {kd : Nat × Nat} : (mm_push S kd).2.1 S.1 = kd := by simp [mm_push, va_up]
theorem mm_R.push {D : va_G} {cA : Nat → ClassId} {z : Nat} {H H1 : Heap} {kd : Nat × Nat} (hR : mm_R D cA z S I H) (hz : H1.size = H.size + 1) (ho : ∀ q, q < H.size → H1[q]? = H[q]?) (he : va_at D vwCl (S.1, mm_e cA (mm_push S kd) I S.1) H1) : mm_R D cA z (mm_push S kd) I H1 := by
  refine ⟨?_, by rw [hz, hR.2.1], Nat.le_succ_of_le hR.2.2.1, fun a ha => ?_, fun a ha j => ?_⟩
  · rw [← mm_w_app (S := S) (x := mm_e cA (mm_push S kd) I S.1) hR.2.2.1 rfl rfl (fun b hb => mm_e_push hb)]
    refine (hR.1.kept (fun k q hk => ho q.1 (hR.1 k q hk).lt)).app (fun k q hk => ?_)
    have hz : k < 1 := (List.getElem?_eq_some_iff.mp hk).1
    rw [show k = 0 by omega] at hk
    cases hk
    exact he
  · by_cases h : a = S.1
    · subst h
      exact ⟨hR.2.2.1, Nat.lt_succ_self _⟩
    · have h2 : (S.2.1 a).1 < 12 := by
        have : (mm_push S kd).2.1 a = S.2.1 a := by simp [mm_push, va_up, h]
        rw [this] at ha
        exact ha
      exact ⟨(hR.lt h2).1, Nat.lt_succ_of_lt (hR.lt h2).2⟩
  · exact hR.2.2.2.2 a (Nat.le_of_succ_le ha) j
theorem mm_S.push {z : Nat} {s : State} {H H1 : Heap} {locs : List Loc} (hS : va_S (fun q => z ≤ q) s.heap H locs) (hz : H1.size = H.size + 1) (ho : ∀ q, q < H.size → H1[q]? = H[q]?) : va_S (fun q => z ≤ q) s.heap H1 locs :=
  ⟨Nat.le_trans hS.1 (by omega), fun x h1 h2 => (ho x (Nat.lt_of_lt_of_le h1 hS.1)).trans (hS.2.1 x h1 h2), hS.2.2⟩
theorem mm_new {idx : Nat} (ci : Nat) (hd : decode M.2.2.1 pc = .ok (.new idx, 3)) (hc : ci < 9) (hw : Cond.classLink M.1 idx (mm_cR ci) ∈ mw_all) (hi : Cond.instantiable (mm_cR ci) (mm_cn ci) ∈ mw_all) (hini : Cond.initialized (mm_cR ci) ∈ mw_all) (hcl : cl + 1 ≤ mc) (hsl : sl + mm_cn ci ≤ ms) (kk : mm_G X M mc ms (pc + 3) lv (.ref S.1 :: st) (mm_push S (ci, 0)) I (cl + 1) (sl + mm_cn ci)) : mm_G X M mc ms pc lv st S I cl sl := by
  intro l D cA z p e R s m args below meth c Qf hX C H locs ls hR hS hL
  have hC := id C
  obtain ⟨hx, hb, hml, hown, hts, hret, hlocks, hK, hnm, ⟨hr1, hr2, hr3, hr4⟩, hz⟩ := hC
  have hKn := hK.1.1 ci _ (mm_ccl ci hc)
  refine W.newcK hx hb hown (hts _ hw) (hts _ hi) (hts _ hini) rfl hd (Nat.le_trans hcl hr3) (Nat.le_trans hsl hr4) hKn.2.1 hR.2.1 fun H1 kC hkC e1 z1 o1 => ?_
  rw [← hR.2.1] at z1 o1
  refine kk l D cA z p e R s m args below meth c Qf hX C H1 locs ls (hR.push z1 o1 ?_) (mm_S.push hS z1 o1) hL
  rw [mm_e_obj (c := ci) (by rw [mm_push_at]) hc]
  refine ⟨_, mm_ccl ci hc, (u_born (mm_cy ci) hts (mm_cw ci hc) hKn hkC e1 (mm_cty ci hc)).to (fun j hj => ?_)⟩
  rw [mm_dflt ci hc j hj]
  unfold vp_V
  rw [List.getD_eq_getElem?_getD, List.getElem?_map, List.getElem?_range hj]
  have h0 := hR.2.2.2.2 S.1 (Nat.le_refl _) j
  show _ = mm_fv (mm_push S (ci, 0)) I S.1 ci j
  unfold mm_fv
  rw [h0.1]
  show (if mm_int ci j = true then Value.int 0 else .null) = if mm_int ci j = true then .int 0 else va_rf (S.2.2 S.1 j)
  rw [h0.2]
  rfl
theorem mm_newa {n : Int32} {N : Nat} (hd : decode M.2.2.1 pc = .ok (.newarray .int, 2)) (hw : Cond.arrayClass .int ∈ mw_all) (hn : ¬ n < 0) (hN : n.toNatClampNeg = N) (hb : N * 4 ≤ 536870912) (hcl : cl + 1 ≤ mc) (hsl : sl + N ≤ ms) (kk : mm_G X M mc ms (pc + 2) lv (.ref S.1 :: st) (mm_push S (9, N)) I (cl + 1) (sl + N)) : mm_G X M mc ms pc lv (.int n :: st) S I cl sl := by
  intro l D cA z p e R s m args below meth c Qf hX C H locs ls hR hS hL
  have hC := id C
  obtain ⟨hx, hb', hml, hown, hts, hret, hlocks, hK, hnm, ⟨hr1, hr2, hr3, hr4⟩, hz⟩ := hC
  refine va_newaK (atype := .int) hx hb' (hts _ hw) rfl hd rfl hn hN hb (Nat.le_trans hcl hr3) (Nat.le_trans hsl hr4) hR.2.1 fun H1 cA' e1 z1 o1 hAr hNm => ?_
  rw [← hR.2.1] at z1 o1
  have hRA : s.vm.findClass ("[" ++ FieldType.int.toString) = some (cA 0) := (hK.1.2 0 _ rfl).2
  have hcA : cA' = cA 0 := Option.some.inj (hNm.symm.trans hRA)
  subst hcA
  refine kk l D cA z p e R s m args below meth c Qf hX C H1 locs ls (hR.push z1 o1 ?_) (mm_S.push hS z1 o1) hL
  rw [mm_e_int (n := N) mm_push_at]
  show H1[S.1]? = some (vp_cell _ _)
  rw [e1, vp_cell_i]
  have hI : I S.1 = fun _ => 0 := funext fun j => (hR.2.2.2.2 S.1 (Nat.le_refl _) j).1
  rw [hI]
  rfl
theorem mm_newq {n : Int32} {N idx : Nat} (t : Nat) (C0 : String) (hd : decode M.2.2.1 pc = .ok (.anewarray idx, 3)) (ht : (t = 0 ∧ C0 = RX4) ∨ (t = 1 ∧ C0 = RX2)) (hw : Cond.classLink M.1 idx C0 ∈ mw_all) (hn : ¬ n < 0) (hN : n.toNatClampNeg = N) (hb : N * 4 ≤ 536870912) (hcl : cl + 1 ≤ mc) (hsl : sl + N ≤ ms) (kk : mm_G X M mc ms (pc + 3) lv (.ref S.1 :: st) (mm_push S (t + 10, N)) I (cl + 1) (sl + N)) : mm_G X M mc ms pc lv (.int n :: st) S I cl sl := by
  intro l D cA z p e R s m args below meth c Qf hX C H locs ls hR hS hL
  have hC := id C
  obtain ⟨hx, hb', hml, hown, hts, hret, hlocks, hK, hnm, ⟨hr1, hr2, hr3, hr4⟩, hz⟩ := hC
  subst hN
  have hover : va_AO C0 s := by rcases ht with ⟨-, rfl⟩ | ⟨-, rfl⟩; exact hK.2.2.1; exact hK.2.2.2
  have hRA : s.vm.findClass ("[" ++ (FieldType.object C0).toString) = some (cA (t + 1)) := by
    rcases ht with ⟨rfl, rfl⟩ | ⟨rfl, rfl⟩
    · obtain ⟨kA, comp, -, -, -, h⟩ := (hK.1.2 1 _ rfl).2
      exact h
    · obtain ⟨kA, comp, -, -, -, h⟩ := (hK.1.2 2 _ rfl).2
      exact h
  refine W.anew hx hb' hown (hts _ hw) (va_AO.use hover) rfl hd rfl hn hb (Nat.le_trans hcl hr3) (Nat.le_trans hsl hr4) fun cA' kA comp f1 f2 f3 f4 => ?_
  have hcA : cA' = cA (t + 1) := Option.some.inj (f1.symm.trans hRA)
  subst hcA
  generalize hH1 : H.push ({ cls := cA (t + 1), slots := Array.replicate n.toNatClampNeg .null, vm := .none } : Cell) = H1
  have z1 : H1.size = H.size + 1 := by rw [← hH1, Array.size_push]
  have e1 : H1[H.size]? = some (arrV (cA (t + 1)) n.toNatClampNeg (fun _ => .null)) := by rw [← hH1, Array.getElem?_push_size, ← arrV_new]
  have o1 : ∀ q : Nat, q < H.size → H1[q]? = H[q]? := fun q hq => by rw [← hH1, Array.getElem?_push, if_neg (Nat.ne_of_lt hq)]
  rw [hR.2.1]
  refine kk l D cA z p e R s m args below meth c Qf hX C H1 locs ls (hR.push z1 o1 ?_) (mm_S.push hS z1 o1) hL
  rw [mm_e_ref (n := n.toNatClampNeg) (t := t) mm_push_at]
  show H1[S.1]? = some (vp_cell _ _)
  rw [← hR.2.1, e1, vp_cell_q]
  have hI : S.2.2 H.size = fun _ => none := funext fun j => (hR.2.2.2.2 H.size (by rw [hR.2.1]; exact Nat.le_refl _) j).2
  show _ = some (arrV _ _ fun j => va_rf (S.2.2 H.size j))
  rw [hI]
  rfl
theorem mm_aast {a n t v ci : Nat} {i : Int32} (hd : decode M.2.2.1 pc = .ok (.aastore, 1)) (ha : S.2.1 a = (t + 10, n)) (ht : (t = 0 ∧ ci = 4) ∨ (t = 1 ∧ ci = 2)) (hv : (S.2.1 v).1 = ci) (hi : vp_in i n) (kk : mm_G X M mc ms (pc + 1) lv st (S.1, S.2.1, mm_wp S.2.2 a i.toNatClampNeg (some v)) I cl sl) : mm_G X M mc ms pc lv (.ref v :: .int i :: .ref a :: st) S I cl sl := by
  intro l D cA z p e R s m args below meth c Qf hX C H locs ls hR hS hL
  have hC := id C
  obtain ⟨hx, hb', hml, hown, hts, hret, hlocks, hK, hnm, ⟨hr1, hr2, hr3, hr4⟩, hz⟩ := hC
  have hlt12 : (S.2.1 a).1 < 12 := by rw [ha]; rcases ht with ⟨rfl, -⟩ | ⟨rfl, -⟩ <;> exact Nat.le_of_ble_eq_true rfl
  have hc9 : ci < 9 := by omega
  have hlt := hR.lt hlt12
  have hat := hR.at hlt12
  rw [mm_e_ref ha] at hat
  have hatv := mm_fv_at hR hc9 hv
  have hi1 : i.toNatClampNeg < n := Nat.not_le.mp fun q => hi (Or.inr q)
  have hi0 : ¬ i < 0 := fun q => hi (Or.inl q)
  obtain ⟨r', hr', cellV, g1, g2, g3, -⟩ := hR.1 _ _ hatv
  have hcls := (hK.1.1 ci _ (mm_ccl ci hc9)).2
  have hRA : ∃ (kA : Class) (comp : ClassId), s.vm.classes[cA (t + 1)]? = some kA ∧ kA.kind = .array comp (.object (mm_cR ci)) ∧ s.vm.findClass (mm_cR ci) = some comp := by
    rcases ht with ⟨rfl, rfl⟩ | ⟨rfl, rfl⟩
    · obtain ⟨kA, comp, h1, h2, h3, -⟩ := (hK.1.2 1 _ rfl).2
      exact ⟨kA, comp, h1, h2, h3⟩
    · obtain ⟨kA, comp, h1, h2, h3, -⟩ := (hK.1.2 2 _ rfl).2
      exact ⟨kA, comp, h1, h2, h3⟩
  obtain ⟨kA, comp, k1, k2, k3⟩ := hRA
  have hcomp : comp = D.1 ci := Option.some.inj (k3.symm.trans hcls.1)
  subst hcomp
  obtain ⟨kC, hkC, -⟩ := hcls.2
  refine W.aast hx hb' (hR.1 _ _ hat) (fun q h => by cases h) (fun h => by cases h) k1 k2 rfl hkC ⟨hi0, by show _ < (arrV _ _ _).slots.size; rw [arrV_size]; exact hi1⟩ g1 (fun q h => by rw [g3] at h; cases h) (by rw [g2]; exact hkC) (by rw [g2]; exact va_assign hcls) rfl rfl hd fun H1 e9 z1 oq => ?_
  have hP1 := hR.1.set mm_w_D hat (e := .inl (cA (t + 1), n, .inr (.inr (.inr (.inr (va_up (S.2.2 a) i.toNatClampNeg (some v))))))) (by
    show H1[a]? = some (vp_cell _ _)
    rw [e9]
    rw [vp_cell_q, vp_cell_q, arrV_store]
    congr 2
    funext q
    by_cases hq : q = i.toNatClampNeg
    · subst hq
      simp [updV, va_up, va_rf]
    · simp [updV, va_up, hq]) oq
  rw [mm_w_set (S' := (S.1, S.2.1, mm_wp S.2.2 a i.toNatClampNeg (some v))) (I' := I) hlt.1 hlt.2 rfl (by
    have h := mm_e_ref (cA := cA) (S := (S.1, S.2.1, mm_wp S.2.2 a i.toNatClampNeg (some v))) (I := I) (t := t) (n := n) ha
    rw [h]
    have h2 : mm_wp S.2.2 a i.toNatClampNeg (some v) a = va_up (S.2.2 a) i.toNatClampNeg (some v) := by
      funext q
      by_cases hq : q = i.toNatClampNeg <;> simp [mm_wp, va_up, hq]
    show _ = _
    rw [← h2]) (fun b hb => mm_e_P hb)] at hP1
  refine kk l D cA z p e R s m args below meth c Qf hX C H1 _ ls ⟨hP1, by rw [z1, hR.2.1], hR.2.2.1, hR.2.2.2.1, fun q hq j => ⟨(hR.2.2.2.2 q hq j).1, ?_⟩⟩ (hS.put z1 oq hlt.1) hL
  show mm_wp S.2.2 a _ (some v) q j = none
  have : q ≠ a := by have h9 : S.1 ≤ q := hq; omega
  simp only [mm_wp, this, false_and, if_false]
  exact (hR.2.2.2.2 q hq j).2
theorem mm_objInit {a idx : Nat} (hd : decode M.2.2.1 pc = .ok (.invokespecial idx, 3)) (hl : Cond.methodLink M.1 idx objectInit ∈ mw_all) (hi : Cond.instanceMethod objectInit ∈ mw_all) (hc : Cond.code objectInit ⟨#[0xb1]⟩ 1 none ∈ mw_all) (hlev : 1 ≤ M.2.2.2.2.2) (hst : (st.map fun v => v.category).sum ≤ 8) (kk : mm_G X M mc ms (pc + 3) lv st S I cl sl) : mm_G X M mc ms pc lv (.ref a :: st) S I cl sl := by
  intro l D cA z p e R s m args below meth c Qf hX C H locs ls hR hS hL
  have hC := id C
  obtain ⟨hx, hb', hml, hown, hts, hret, hlocks, hK, hnm, ⟨hr1, hr2, hr3, hr4⟩, hz⟩ := hC
  refine W.objInit hx hb' hown (hts _ hl) (hts _ hi) (hts _ hc) rfl (by rw [hml]; exact hL.has.1) rfl hd (Nat.le_trans hlev hr1) ?_ ?_
  · show 2 * 0 + _ + 12 ≤ R.locals
    omega
  · exact kk l D cA z p e R s m args below meth c Qf hX C H locs ls hR hS hL
theorem mm_min {x y : Int32} {idx : Nat} (hd : decode M.2.2.1 pc = .ok (.invokestatic idx, 3)) (hl : Cond.methodLink M.1 idx Lib.Math.min.name ∈ mw_all) (h2 : Cond.static Lib.Math.min.name ∈ mw_all) (h3 : Cond.initialized "java/lang/Math" ∈ mw_all) (h4 : Cond.code Lib.Math.min.name Lib.Math.min.code 2 (some .int) ∈ mw_all) (hlev : 1 ≤ M.2.2.2.2.2) (hst : (st.map fun v => v.category).sum ≤ 8) (hcl : cl ≤ mc) (hsl : sl ≤ ms) (kk : mm_G X M mc ms (pc + 3) lv (.int (if y < x then y else x) :: st) S I cl sl) : mm_G X M mc ms pc lv (.int y :: .int x :: st) S I cl sl := by
  intro l D cA z p e R s m args below meth c Qf hX C H locs ls hR hS hL
  have hC := id C
  obtain ⟨hx, hb', hml, hown, hts, hret, hlocks, hK, hnm, ⟨hr1, hr2, hr3, hr4⟩, hz⟩ := hC
  exact va_mmin hx hb' (by rw [hml]; exact hL.has.1.symm) hown (hts _ hl) (hts _ h2) (hts _ h3) (hts _ h4) (Nat.le_trans hlev hr1) (by omega) (Nat.le_trans hcl hr3) (Nat.le_trans hsl hr4) hd (kk l D cA z p e R s m args below meth c Qf hX C H locs ls hR hS hL)
theorem mm_max {x y : Int32} {idx : Nat} (hd : decode M.2.2.1 pc = .ok (.invokestatic idx, 3)) (hl : Cond.methodLink M.1 idx Lib.Math.max.name ∈ mw_all) (h2 : Cond.static Lib.Math.max.name ∈ mw_all) (h3 : Cond.initialized "java/lang/Math" ∈ mw_all) (h4 : Cond.code Lib.Math.max.name Lib.Math.max.code 2 (some .int) ∈ mw_all) (hlev : 1 ≤ M.2.2.2.2.2) (hst : (st.map fun v => v.category).sum ≤ 8) (hcl : cl ≤ mc) (hsl : sl ≤ ms) (kk : mm_G X M mc ms (pc + 3) lv (.int (if x < y then y else x) :: st) S I cl sl) : mm_G X M mc ms pc lv (.int y :: .int x :: st) S I cl sl := by
  intro l D cA z p e R s m args below meth c Qf hX C H locs ls hR hS hL
  have hC := id C
  obtain ⟨hx, hb', hml, hown, hts, hret, hlocks, hK, hnm, ⟨hr1, hr2, hr3, hr4⟩, hz⟩ := hC
  exact va_mmax hx hb' (by rw [hml]; exact hL.has.1.symm) hown (hts _ hl) (hts _ h2) (hts _ h3) (hts _ h4) (Nat.le_trans hlev hr1) (by omega) (Nat.le_trans hcl hr3) (Nat.le_trans hsl hr4) hd (kk l D cA z p e R s m args below meth c Qf hX C H locs ls hR hS hL)
theorem mm_f2raw {b : UInt32} {idx : Nat} (hd : decode M.2.2.1 pc = .ok (.invokestatic idx, 3)) (hl : Cond.methodLink M.1 idx ⟨"java/lang/Float", "floatToRawIntBits", "(F)I"⟩ ∈ mw_all) (h1 : Cond.native ⟨"java/lang/Float", "floatToRawIntBits", "(F)I"⟩ ∈ mw_all) (h2 : Cond.static ⟨"java/lang/Float", "floatToRawIntBits", "(F)I"⟩ ∈ mw_all) (h3 : Cond.initialized "java/lang/Float" ∈ mw_all) (hlev : 1 ≤ M.2.2.2.2.2) (hst : (st.map fun v => v.category).sum ≤ 8) (kk : mm_G X M mc ms (pc + 3) lv (.int b.toInt32 :: st) S I cl sl) : mm_G X M mc ms pc lv (.float b :: st) S I cl sl := by
  intro l D cA z p e R s m args below meth c Qf hX C H locs ls hR hS hL
  have hC := id C
  obtain ⟨hx, hb', hml, hown, hts, hret, hlocks, hK, hnm, ⟨hr1, hr2, hr3, hr4⟩, hz⟩ := hC
  exact vn_f2i hx hb' (by rw [hml]; exact hL.has.1.symm) hown (hts _ hl) (hts _ h1) (hts _ h2) (hts _ h3) (Nat.le_trans hlev hr1) (by omega) hd (kk l D cA z p e R s m args below meth c Qf hX C H locs ls hR hS hL)
end mmAlloc
