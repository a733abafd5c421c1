/-! THE MINI MACHINE: a world is S = (the first free address, the kind of each cell, its references) and I, its ints. -/
def mw_nestQ : Cond → Bool
  | .methodLinkNest _ _ _ _ => true
  | _ => false
def mw_all : List Cond := lw_tbl.filter goodWord
def mw_nest : List Cond := tables_1.filter mw_nestQ
theorem mw_in {w : Cond} (i : Nat) (h : lw_tbl[i]? = some w) (hg : goodWord w = true) : w ∈ mw_all := List.mem_filter.mpr ⟨List.mem_of_getElem? h, hg⟩
theorem mw_inN {w : Cond} (i : Nat) (h : tables_1[i]? = some w) (hg : mw_nestQ w = true) : w ∈ mw_nest := List.mem_filter.mpr ⟨List.mem_of_getElem? h, hg⟩
theorem mw_ws (ws : List Cond) (ps : List Nat) (hp : ws = ps.filterMap (fun i => lw_tbl[i]?)) (h : ws.all goodWord = true) : ∀ w ∈ ws, w ∈ mw_all := by
  intro w hw
  have h1 := List.all_eq_true.mp h w hw
  rw [hp] at hw
  obtain ⟨i, -, hi⟩ := List.mem_filterMap.mp hw
  exact mw_in i hi h1
theorem mw_good {w : Cond} (h : w ∈ mw_all) : ((w.onTables && w.keeps) = true ∨ ∃ ty, w = .arrayClass ty) := good_of_word (List.mem_filter.mp h).2
theorem mw_goodIn {y : MethodName} {b : ByteArray} {n : Nat} {r : Option FieldType} (h : Cond.code y b n r ∈ mw_all) : GoodIn mw_all (.code y b n r :: mw_all) := by
  intro w hw
  rcases List.mem_cons.mp hw with rfl | h2
  · exact ⟨h, mw_good h⟩
  · exact ⟨h2, mw_good h2⟩
-- the classes of the worlds
def mm_cR : Nat → String := fun c => match c with
  | 0 => RX0 | 1 => RX1 | 2 => RX2 | 3 => RX3 | 4 => RX4 | 5 => RX5 | 6 => RX6 | 7 => RX7 | _ => RX8
def mm_cT : Nat → u_T := fun c => match c with
  | 0 => TX0 | 1 => TX1 | 2 => TX2 | 3 => TX3 | 4 => TX4 | 5 => TX5 | 6 => TX6 | 7 => TX7 | _ => TX8
def mm_cy : Nat → Nat → FieldType := fun c => match c with
  | 0 => tyX0 | 1 => tyX1 | 2 => tyX2 | 3 => tyX3 | 4 => tyX4 | 5 => tyX5 | 6 => tyX6 | 7 => tyX7 | _ => tyX8
def mm_cn : Nat → Nat := fun c => match c with
  | 0 => 3 | 1 => 2 | 2 => 12 | 3 => 3 | 4 => 8 | 5 => 5 | 6 => 5 | 7 => 4 | _ => 16
def mm_int (c k : Nat) : Bool := match mm_cy c k with
  | .int => true
  | .boolean => true
  | _ => false
theorem mm_c9 {p : Nat → Prop} (h0 : p 0) (h1 : p 1) (h2 : p 2) (h3 : p 3) (h4 : p 4) (h5 : p 5) (h6 : p 6) (h7 : p 7) (h8 : p 8) : ∀ c, c < 9 → p c := by
  intro c hc
  rcases (show c = 0 ∨ c = 1 ∨ c = 2 ∨ c = 3 ∨ c = 4 ∨ c = 5 ∨ c = 6 ∨ c = 7 ∨ c = 8 by omega) with rfl | rfl | rfl | rfl | rfl | rfl | rfl | rfl | rfl <;> assumption
theorem mm_ccl : ∀ c, c < 9 → vwCl[c]? = some (mm_cR c, mm_cT c, mm_cn c) := mm_c9 rfl rfl rfl rfl rfl rfl rfl rfl rfl
theorem mm_cty : ∀ c, c < 9 → ∀ k, k < mm_cn c → parseFieldDescriptor (mm_cT c k).2.2.1 = some (mm_cy c k) := mm_c9 tyX0_ok tyX1_ok tyX2_ok tyX3_ok tyX4_ok tyX5_ok tyX6_ok tyX7_ok tyX8_ok
theorem mm_cnm : ∀ c, c < 9 → ∀ a, a < mm_cn c → ∀ b, b < mm_cn c → a ≠ b → (mm_cT c a).2.1 ≠ (mm_cT c b).2.1 := mm_c9 nmX0 nmX1 nmX2 nmX3 nmX4 nmX5 nmX6 nmX7 nmX8

theorem mm_cw0 : ∀ w ∈ u_ws RX0 TX0 3, w ∈ mw_all := mw_ws _ [89, 91, 93] (by decide +kernel) (by decide +kernel)
theorem mm_cw1 : ∀ w ∈ u_ws RX1 TX1 2, w ∈ mw_all := mw_ws _ [70, 72] (by decide +kernel) (by decide +kernel)
theorem mm_cw2 : ∀ w ∈ u_ws RX2 TX2 12, w ∈ mw_all := mw_ws _ [146, 148, 150, 152, 154, 156, 158, 160, 162, 164, 166, 168] (by decide +kernel) (by decide +kernel)
theorem mm_cw3 : ∀ w ∈ u_ws RX3 TX3 3, w ∈ mw_all := mw_ws _ [184, 186, 188] (by decide +kernel) (by decide +kernel)
theorem mm_cw4 : ∀ w ∈ u_ws RX4 TX4 8, w ∈ mw_all := mw_ws _ [116, 118, 120, 122, 124, 126, 128, 130] (by decide +kernel) (by decide +kernel)
theorem mm_cw5 : ∀ w ∈ u_ws RX5 TX5 5, w ∈ mw_all := mw_ws _ [206, 208, 210, 212, 214] (by decide +kernel) (by decide +kernel)
theorem mm_cw6 : ∀ w ∈ u_ws RX6 TX6 5, w ∈ mw_all := mw_ws _ [235, 237, 239, 241, 243] (by decide +kernel) (by decide +kernel)
theorem mm_cw7 : ∀ w ∈ u_ws RX7 TX7 4, w ∈ mw_all := mw_ws _ [250, 252, 254, 256] (by decide +kernel) (by decide +kernel)
theorem mm_cw8 : ∀ w ∈ u_ws RX8 TX8 16, w ∈ mw_all := mw_ws _ [719, 721, 723, 725, 727, 729, 731, 733, 735, 737, 739, 741, 743, 745, 747, 749] (by decide +kernel) (by decide +kernel)
theorem mm_cw : ∀ c, c < 9 → ∀ w ∈ u_ws (mm_cR c) (mm_cT c) (mm_cn c), w ∈ mw_all := mm_c9 mm_cw0 mm_cw1 mm_cw2 mm_cw3 mm_cw4 mm_cw5 mm_cw6 mm_cw7 mm_cw8
-- a method: its class, name, code, locals, return, and how deep its calls go
abbrev mm_S : Type := Nat × (Nat → Nat × Nat) × (Nat → Nat → Option Nat)
abbrev mm_I : Type := Nat → Nat → Int32
/-- a field's value -/
def mm_fv (S : mm_S) (I : mm_I) (a c k : Nat) : Value := if mm_int c k = true then .int (I a k) else va_rf (S.2.2 a k)
/-- a cell: kinds 0 to 8 are objects, 9 an int array, 10 an array of lots, 11 of estates -/
def mm_e (cA : Nat → ClassId) (S : mm_S) (I : mm_I) (a : Nat) : va_E :=
  if (S.2.1 a).1 < 9 then .inr ((S.2.1 a).1, (List.range (mm_cn (S.2.1 a).1)).map (fun k => mm_fv S I a (S.2.1 a).1 k))
  else if (S.2.1 a).1 = 9 then .inl (cA 0, (S.2.1 a).2, .inl (I a))
  else .inl (cA ((S.2.1 a).1 - 9), (S.2.1 a).2, .inr (.inr (.inr (.inr (S.2.2 a)))))
def mm_w (cA : Nat → ClassId) (z : Nat) (S : mm_S) (I : mm_I) : va_W := (List.range (S.1 - z)).map (fun k => (z + k, mm_e cA S I (z + k)))
def mm_R (D : va_G) (cA : Nat → ClassId) (z : Nat) (S : mm_S) (I : mm_I) (H : Heap) : Prop :=
  va_P D vwCl (mm_w cA z S I) H ∧ H.size = S.1 ∧ z ≤ S.1 ∧ (∀ a, (S.2.1 a).1 < 12 → z ≤ a ∧ a < S.1) ∧ ∀ a, S.1 ≤ a → ∀ j, I a j = 0 ∧ S.2.2 a j = none
theorem mm_w_at {cA : Nat → ClassId} {z : Nat} {S : mm_S} {I : mm_I} {a : Nat} (h1 : z ≤ a) (h2 : a < S.1) : (mm_w cA z S I)[a - z]? = some (a, mm_e cA S I a) := by
  unfold mm_w
  rw [List.getElem?_map, List.getElem?_range (by omega)]
  simp [show z + (a - z) = a by omega]
theorem mm_w_D {cA : Nat → ClassId} {z : Nat} {S : mm_S} {I : mm_I} : va_D (fun q => z ≤ q) (mm_w cA z S I) := by
  have key : ∀ (i : Nat) (x : Nat × va_E), (mm_w cA z S I)[i]? = some x → x.1 = z + i := by
    intro i x hx
    unfold mm_w at hx
    rw [List.getElem?_map] at hx
    cases hr : (List.range (S.1 - z))[i]? with
    | none => rw [hr] at hx; simp at hx
    | some j =>
      rw [hr] at hx
      have hj : j = i := by
        have := List.getElem?_eq_some_iff.mp hr
        obtain ⟨h1, h2⟩ := this
        simpa using h2.symm
      subst hj
      simp at hx
      rw [← hx]
  refine ⟨fun i j x y hi hj hxy => ?_, fun k q hk => ?_⟩
  · have h1 := key i x hi
    have h2 := key j y hj
    omega
  · have h1 := key k q hk
    show z ≤ q.1
    omega
theorem mm_w_set {cA : Nat → ClassId} {z a : Nat} {S S' : mm_S} {I I' : mm_I} {x : va_E} (h1 : z ≤ a) (h2 : a < S.1) (hS : S'.1 = S.1) (hx : mm_e cA S' I' a = x) (ho : ∀ b, b ≠ a → mm_e cA S' I' b = mm_e cA S I b) : (mm_w cA z S I).set (a - z) (a, x) = mm_w cA z S' I' := by
  apply List.ext_getElem?
  intro i
  by_cases hi : i = a - z
  · subst hi
    rw [List.getElem?_set_self (by simp [mm_w]; omega), mm_w_at h1 (by rw [hS]; exact h2), hx]
  · rw [List.getElem?_set_ne (Ne.symm hi)]
    unfold mm_w
    rw [List.getElem?_map, List.getElem?_map, hS]
    cases hr : (List.range (S.1 - z))[i]? with
    | none => rfl
    | some j =>
      have hj : j = i := by
        obtain ⟨h3, h4⟩ := List.getElem?_eq_some_iff.mp hr
        simpa using h4.symm
      subst hj
      simp only [Option.map_some]
      rw [ho (z + j) (by omega)]
theorem mm_w_app {cA : Nat → ClassId} {z : Nat} {S S' : mm_S} {I : mm_I} {x : va_E} (hz : z ≤ S.1) (hS : S'.1 = S.1 + 1) (hx : mm_e cA S' I S.1 = x) (ho : ∀ b, b < S.1 → mm_e cA S' I b = mm_e cA S I b) : mm_w cA z S I ++ [(S.1, x)] = mm_w cA z S' I := by
  unfold mm_w
  rw [hS, show S.1 + 1 - z = (S.1 - z) + 1 by omega, List.range_succ, List.map_append]
  congr 1
  · apply List.map_congr_left
    intro k hk
    have := List.mem_range.mp hk
    rw [ho _ (by omega)]
  · simp [show z + (S.1 - z) = S.1 by omega, hx]
theorem mm_R.lt {D : va_G} {cA : Nat → ClassId} {z : Nat} {S : mm_S} {I : mm_I} {H : Heap} (h : mm_R D cA z S I H) {a : Nat} (ha : (S.2.1 a).1 < 12) : z ≤ a ∧ a < S.1 := h.2.2.2.1 a ha
theorem mm_R.at {D : va_G} {cA : Nat → ClassId} {z : Nat} {S : mm_S} {I : mm_I} {H : Heap} (h : mm_R D cA z S I H) {a : Nat} (ha : (S.2.1 a).1 < 12) : (mm_w cA z S I)[a - z]? = some (a, mm_e cA S I a) := mm_w_at (h.lt ha).1 (h.lt ha).2
/-- an int written -/
def mm_wr (I : mm_I) (a k : Nat) (x : Int32) : mm_I := fun b j => if b = a ∧ j = k then x else I b j
def mm_wp (P : Nat → Nat → Option Nat) (a k : Nat) (x : Option Nat) : Nat → Nat → Option Nat := fun b j => if b = a ∧ j = k then x else P b j
theorem mm_wr_s {I : mm_I} {a k : Nat} {x : Int32} : mm_wr I a k x a k = x := by simp [mm_wr]
theorem mm_wr_a {I : mm_I} {a k b j : Nat} {x : Int32} (h : b ≠ a) : mm_wr I a k x b j = I b j := by simp [mm_wr, h]
theorem mm_wr_k {I : mm_I} {a k b j : Nat} {x : Int32} (h : j ≠ k) : mm_wr I a k x b j = I b j := by simp [mm_wr, h]
theorem mm_wr_row {I : mm_I} {a k b : Nat} {x : Int32} (h : b ≠ a) : mm_wr I a k x b = I b := by funext j; exact mm_wr_a h
theorem mm_wr_upd {I : mm_I} {a k : Nat} {x : Int32} : mm_wr I a k x a = upd (I a) k x := by
  funext j
  by_cases h : j = k <;> simp [mm_wr, upd, h]
theorem mm_e_I {cA : Nat → ClassId} {S : mm_S} {I I' : mm_I} {b : Nat} (h : I' b = I b) : mm_e cA S I' b = mm_e cA S I b := by
  unfold mm_e mm_fv
  rw [h]
theorem mm_e_obj {cA : Nat → ClassId} {S : mm_S} {I : mm_I} {a c : Nat} (ha : (S.2.1 a).1 = c) (hc : c < 9) : mm_e cA S I a = .inr (c, (List.range (mm_cn c)).map (fun k => mm_fv S I a c k)) := by
  unfold mm_e
  rw [ha, if_pos hc]
theorem mm_e_int {cA : Nat → ClassId} {S : mm_S} {I : mm_I} {a n : Nat} (ha : S.2.1 a = (9, n)) : mm_e cA S I a = .inl (cA 0, n, .inl (I a)) := by
  unfold mm_e
  rw [ha]
  rfl
theorem mm_e_ref {cA : Nat → ClassId} {S : mm_S} {I : mm_I} {a n t : Nat} (ha : S.2.1 a = (t + 10, n)) : mm_e cA S I a = .inl (cA (t + 1), n, .inr (.inr (.inr (.inr (S.2.2 a))))) := by
  unfold mm_e
  rw [ha]
  rw [if_neg (by show ¬ t + 10 < 9; omega), if_neg (by show ¬ t + 10 = 9; omega)]
  rfl
-- the tables, at any state of the run
def mm_K (D : va_G) (cA : Nat → ClassId) (U : State) : Prop := va_K D vwCl [(cA 0, .int), (cA 1, .object RX4), (cA 2, .object RX2)] U ∧ (∀ w ∈ mw_nest, va_Nw w U) ∧ va_AO RX4 U ∧ va_AO RX2 U
theorem mw_nest_is {w : Cond} (h : w ∈ mw_nest) : ∃ a i x b, w = .methodLinkNest a i x b := by
  have h2 := (List.mem_filter.mp h).2
  unfold mw_nestQ at h2
  split at h2
  · exact ⟨_, _, _, _, rfl⟩
  · cases h2
theorem mm_K.moved {D : va_G} {cA : Nat → ClassId} {s U : State} (hW : s.WarmedH U.vm) (h : mm_K D cA s) : mm_K D cA U := by
  obtain ⟨h1, h2, h3, h4⟩ := h
  refine ⟨va_K.moved hW.alike h1, fun w hw => ?_, va_AO.moved hW.alike h3, va_AO.moved hW.alike h4⟩
  obtain ⟨a, i, x, b, rfl⟩ := mw_nest_is hw
  exact va_Nw.warmM hW (h2 _ hw)
theorem mm_K.calling {D : va_G} {cA : Nat → ClassId} {U : State} {g : JFrame} {mk : MethodId} {a : Array Value} (h : mm_K D cA U) : mm_K D cA (U.calling g mk a) := by
  obtain ⟨h1, h2, h3, h4⟩ := h
  refine ⟨va_K.moved (u := U) (U := U.calling g mk a) (Vm.Alike.refl U.vm) h1, fun w hw => ?_, va_AO.moved (u := U) (U := U.calling g mk a) (Vm.Alike.refl U.vm) h3, va_AO.moved (u := U) (U := U.calling g mk a) (Vm.Alike.refl U.vm) h4⟩
  obtain ⟨a', i, x, b, rfl⟩ := mw_nest_is hw
  exact va_Nw.same rfl (u := U) (U := U.calling g mk a) rfl (h2 _ hw)
-- locals
def mm_get : List (Nat × Value) → Nat → Option Value
  | [], _ => none
  | q :: l, k => match Nat.beq q.1 k with
    | true => some q.2
    | false => mm_get l k
def mm_L (ls : Array Slot) (nL : Nat) (lv : List (Nat × Value)) : Prop := ∃ l, lv_has ls nL l ∧ ∀ k v, mm_get lv k = some v → (k, v) ∈ l ∧ v.category = 1
theorem mm_get_hd {lv : List (Nat × Value)} {i k : Nat} {v w : Value} (h : mm_get ((i, v) :: lv) k = some w) : (k = i ∧ w = v) ∨ (k ≠ i ∧ mm_get lv k = some w) := by
  unfold mm_get at h
  split at h
  · rename_i hb
    exact Or.inl ⟨(Nat.eq_of_beq_eq_true hb).symm, (Option.some.inj h).symm⟩
  · rename_i hb
    exact Or.inr ⟨fun e => Nat.ne_of_beq_eq_false hb e.symm, h⟩
theorem mm_get_mem : ∀ {lv : List (Nat × Value)} {k : Nat} {v : Value}, mm_get lv k = some v → (k, v) ∈ lv
  | [], _, _, h => by cases h
  | (i, x) :: lv, k, v, h => by
    rcases mm_get_hd h with ⟨rfl, rfl⟩ | ⟨-, h2⟩
    · exact List.mem_cons_self
    · exact List.mem_cons_of_mem _ (mm_get_mem h2)
theorem mm_L.at {ls : Array Slot} {nL : Nat} {lv : List (Nat × Value)} (h : mm_L ls nL lv) {k : Nat} {v : Value} (hk : mm_get lv k = some v) : ls[k]? = some (.val v) := by
  obtain ⟨l, h1, h2⟩ := h
  exact h1.2.2 (k, v) (h2 k v hk).1
theorem mm_L.sub {ls : Array Slot} {nL : Nat} {lv lv' : List (Nat × Value)} (h : mm_L ls nL lv) (hs : ∀ k v, mm_get lv' k = some v → mm_get lv k = some v) : mm_L ls nL lv' := by
  obtain ⟨l, h1, h2⟩ := h
  exact ⟨l, h1, fun k v hk => h2 k v (hs k v hk)⟩
noncomputable def mm_L.l {ls : Array Slot} {nL : Nat} {lv : List (Nat × Value)} (h : mm_L ls nL lv) : List (Nat × Value) := Classical.choose h
theorem mm_L.has {ls : Array Slot} {nL : Nat} {lv : List (Nat × Value)} (h : mm_L ls nL lv) : lv_has ls nL h.l := (Classical.choose_spec h).1
theorem mm_L.st {ls ls2 : Array Slot} {nL : Nat} {lv : List (Nat × Value)} (h : mm_L ls nL lv) {i : Nat} {v : Value} (h2 : lv_has ls2 nL ((i, v) :: h.l.filter (fun q => !(q.1 == i) && !(q.1 + 1 == i && q.2.category == 2)))) (hv : v.category = 1) : mm_L ls2 nL ((i, v) :: lv) := by
  refine ⟨_, h2, fun k w hk => ?_⟩
  rcases mm_get_hd hk with ⟨rfl, rfl⟩ | ⟨hne, hk2⟩
  · exact ⟨List.mem_cons_self, hv⟩
  · obtain ⟨h3, h4⟩ := (Classical.choose_spec h).2 k w hk2
    refine ⟨List.mem_cons_of_mem _ (List.mem_filter.mpr ⟨h3, ?_⟩), h4⟩
    simp [hne, h4]
-- the judgement
def mm_C (M : mm_M) (mc ms : Nat) (D : va_G) (cA : Nat → ClassId) (z : Nat) (p : Program) (R : Room) (s : State) (m : MethodId) (args : Array Value) (meth : Method) (c : Code) : Prop :=
  p.tables.exec = Jvm.exec ∧ c.code = M.2.2.1 ∧ c.maxLocals = M.2.2.2.1 ∧ s.vm.findClass M.1 = some m.cls ∧ (∀ w ∈ mw_all, w.before args s = true) ∧ meth.sig.returnType = M.2.2.2.2.1 ∧ meth.locks = false ∧ mm_K D cA s ∧ meth.name = M.2.1.name ∧
    (M.2.2.2.2.2 ≤ R.frames ∧ 30 * M.2.2.2.2.2 ≤ R.locals ∧ mc ≤ R.cells ∧ ms ≤ R.slots) ∧ z ≤ s.heap.size
abbrev mm_X : Type := va_G → (Nat → ClassId) → Nat → State → Array Value → List Frame → (State → Prop) → Prop
def mm_G (X : mm_X) (M : mm_M) (mc ms : Nat) (pc : Nat) (lv : List (Nat × Value)) (st : List Value) (S : mm_S) (I : mm_I) (cl sl : Nat) : Prop :=
  ∀ (l : Launch) (D : va_G) (cA : Nat → ClassId) (z : Nat) (p : Program) (e : Env) (R : Room) (s : State) (m : MethodId) (args : Array Value) (below : List Frame) (meth : Method) (c : Code) (Qf : State → Prop),
    X D cA z s args below Qf → mm_C M mc ms D cA z p R s m args meth c → ∀ (H : Heap) (locs : List Loc) (ls : Array Slot), mm_R D cA z S I H → va_S (fun q => z ≤ q) s.heap H locs → mm_L ls M.2.2.2.1 lv →
      W p l e R s m args below meth c H locs cl sl Qf (F0 m pc ls st)
def mm_Q (D : va_G) (cA : Nat → ClassId) (z : Nat) (Q : Option Value → mm_S → mm_I → Prop) : Array Value → State → Outcome → State → Prop := fun _ st o t =>
  (∃ (v : Option Value) (S' : mm_S) (I' : mm_I), o = .returned v ∧ Q v S' I' ∧ mm_R D cA z S' I' t.heap) ∧ va_F (fun q => z ≤ q) st t
def mm_P (D : va_G) (cA : Nat → ClassId) (z : Nat) (as : List Value) (S : mm_S) (I : mm_I) : Array Value → State → Prop := fun v U => v = as.toArray ∧ mm_R D cA z S I U.heap ∧ mm_K D cA U
def mm_XM (mc ms : Nat) (Q : Option Value → mm_S → mm_I → Prop) : mm_X := fun D cA z s args below Qf => Qf = MQ below (mm_Q D cA z Q) args s mc ms (fun q => z ≤ q)
def mm_rm (M : mm_M) (mc ms : Nat) : Room := { frames := M.2.2.2.2.2, cells := mc, slots := ms, locals := 30 * M.2.2.2.2.2 }
/-- a method's contract: from the world S, I it returns, and Q holds of its answer and its world -/
def mm_Ct (M : mm_M) (mc ms : Nat) (as : List Value) (S : mm_S) (I : mm_I) (Q : Option Value → mm_S → mm_I → Prop) : Prop :=
  ∀ (l : Launch) (D : va_G) (cA : Nat → ClassId) (z : Nat), Met l M.2.1 (.code M.2.1 M.2.2.1 M.2.2.2.1 M.2.2.2.2.1 :: mw_all) (mm_rm M mc ms) (mm_P D cA z as S I) (mm_Q D cA z Q) mc ms (fun q => z ≤ q)
/-- ... one that makes no cell -/
def mm_ct (M : mm_M) (as : List Value) (S : mm_S) (I : mm_I) (Q : Option Value → mm_I → Prop) : Prop := mm_Ct M 0 0 as S I (fun v S' I' => S' = S ∧ Q v I')
/-- what the tables say of a method -/
def mm_ok (M : mm_M) (n : Nat) : Prop := plainFor M.2.1 = true ∧ M.1 = M.2.1.cls ∧ Cond.code M.2.1 M.2.2.1 M.2.2.2.1 M.2.2.2.2.1 ∈ mw_all ∧ (M.2.1.cls ≠ "java/lang/invoke/MethodHandle" ∧ M.2.1.cls ≠ "java/lang/invoke/VarHandle" ∧ (parseMethodDescriptor M.2.1.desc).map (fun d => d.parameters.length) = some n) ∧ M.2.2.2.1 ≤ 11 ∧ Cond.initialized M.2.1.cls ∈ mw_all
theorem mm_ofW {l : Launch} {y : MethodName} {ws ws' : List Cond} {rm : Room} {Pc : Array Value → State → Prop} {Qc : Array Value → State → Outcome → State → Prop} {mc ms : Nat} {free : Addr → Prop} {cc : ByteArray} {maxL : Nat} {ret : Option FieldType}
    (hy : plainFor y = true) (hw : ws = Cond.code y cc maxL ret :: ws')
    (body : ∀ p e s m args below meth c s₁, BodyLoose p l y (headSpec ws rm) cc maxL ret e s m args below meth c s₁ → c.maxLocals = maxL → Pc args s →
      W p l e (headSpec ws rm).room s m args below meth c s.heap [] 0 0 (MQ below Qc args s mc ms free) (entryFrame m args maxL)) : Met l y ws rm Pc Qc mc ms free := by
  refine MetFree.of_bodySF (code := cc) (maxLocals := maxL) (ret := ret) hy ?_ ?_
  · intro args s m h hn
    obtain ⟨meth, c, h1, h2, h3, h4, h5, h6, -, -⟩ := Cond.code_spec hn (atoms_spec (ws := ws) h _ (by rw [hw]; exact List.mem_cons_self))
    exact ⟨meth, c, h1, h2, h3, h4, h5, h6⟩
  · intro p e s m args below meth c s₁ B hml hP _
    have hh0 : s₁.heap = s.heap := by rw [B.state]; rfl
    obtain ⟨t, a1, o, b1, b2, b3⟩ := body p e s m args below meth c s₁ B hml hP s₁ hh0 (Stand.of_body B)
    exact ⟨t, o, a1, b1, b2, ⟨b3.1, b3.2⟩⟩
theorem mm_args_mem : ∀ {as : List Value} {i k : Nat} {v : Value}, (k, v) ∈ lv_args i as → v ∈ as
  | [], _, _, _, h => by cases h
  | a :: as, i, k, v, h => by
    rcases List.mem_cons.mp h with h | h
    · cases h; exact List.mem_cons_self
    · exact List.mem_cons_of_mem _ (mm_args_mem h)
theorem mm_Ct.of {M : mm_M} {n mc ms : Nat} {as : List Value} {S : mm_S} {I : mm_I} {Q : Option Value → mm_S → mm_I → Prop} (hM : mm_ok M n) (hc : as.all (fun v => v.category == 1) = true) (hn : (lg_sl as).length ≤ M.2.2.2.1) {lv : List (Nat × Value)} (hlv : lv_args 0 as = lv) (body : mm_G (mm_XM mc ms Q) M mc ms 0 lv [] S I 0 0) : mm_Ct M mc ms as S I Q := by
  intro l D cA z
  refine mm_ofW (cc := M.2.2.1) (maxL := M.2.2.2.1) (ret := M.2.2.2.2.1) hM.1 rfl ?_
  intro p e s m args below meth c s₁ B hml hv
  obtain ⟨rfl, hR, hK⟩ := hv
  have hts := atoms_spec (ws := .code M.2.1 M.2.2.1 M.2.2.2.1 M.2.2.2.2.1 :: mw_all) B.pre
  have hown : s.vm.findClass M.2.1.cls = some m.cls := findClass_of_methodNamed B.named
  rw [lg_entry_eq]
  refine body l D cA z p e _ s m _ below meth c _ rfl ⟨B.exec, B.bytes, hml, hM.2.1 ▸ hown, fun w h => hts w (List.mem_cons_of_mem _ h), B.returns, B.notSynchronized, hK, (name_of_methodNamed B.named B.method).1, ⟨Nat.le_refl _, Nat.le_refl _, Nat.le_refl _, Nat.le_refl _⟩, ?_⟩ s.heap [] _ hR va_S.rf ?_
  · rw [hR.2.1]; exact hR.2.2.1
  · refine ⟨lv_args 0 as, lv_entry as hn, fun k v hk => ?_⟩
    subst hlv
    have h1 := mm_get_mem hk
    refine ⟨h1, ?_⟩
    have h2 := List.all_eq_true.mp hc v (mm_args_mem h1)
    simpa using h2
theorem mm_ct.of {M : mm_M} {n : Nat} {as : List Value} {S : mm_S} {I : mm_I} {Q : Option Value → mm_I → Prop} (hM : mm_ok M n) (hc : as.all (fun v => v.category == 1) = true) (hn : (lg_sl as).length ≤ M.2.2.2.1) {lv : List (Nat × Value)} (hlv : lv_args 0 as = lv) (body : mm_G (mm_XM 0 0 (fun v S' I' => S' = S ∧ Q v I')) M 0 0 0 lv [] S I 0 0) : mm_ct M as S I Q := mm_Ct.of hM hc hn hlv body
theorem mm_Ct.to {M : mm_M} {mc ms : Nat} {as : List Value} {S : mm_S} {I : mm_I} {Q Q' : Option Value → mm_S → mm_I → Prop} (h : mm_Ct M mc ms as S I Q) (hq : ∀ v S' I', Q v S' I' → Q' v S' I') : mm_Ct M mc ms as S I Q' := by
  intro l D cA z p e ha hc hk s m args below hf happ hP hK2
  obtain ⟨t, o, h1, h2, h3, ⟨⟨v, S', I', e1, e2, e3⟩, e4⟩, e5⟩ := h l D cA z p e ha hc hk s m args below hf happ hP hK2
  exact ⟨t, o, h1, h2, h3, ⟨⟨v, S', I', e1, hq v S' I' e2, e3⟩, e4⟩, e5⟩
/-- fewer locals are asked -/
theorem mm_G.sub {X : mm_X} {M : mm_M} {mc ms pc : Nat} {lv lv' : List (Nat × Value)} {st : List Value} {S : mm_S} {I : mm_I} {cl sl : Nat} (hs : ∀ k v, mm_get lv' k = some v → mm_get lv k = some v) (k : mm_G X M mc ms pc lv' st S I cl sl) : mm_G X M mc ms pc lv st S I cl sl := fun l D cA z p e R s m args below meth c Qf hX C H locs ls hR hS hL => k l D cA z p e R s m args below meth c Qf hX C H locs ls hR hS (hL.sub hs)
theorem mm_G.i {X : mm_X} {M : mm_M} {mc ms pc : Nat} {lv : List (Nat × Value)} {st : List Value} {S : mm_S} {I I' : mm_I} {cl sl : Nat} (h : I = I') (k : mm_G X M mc ms pc lv st S I' cl sl) : mm_G X M mc ms pc lv st S I cl sl := h ▸ k
/-- a list of locals, entry by entry -/
theorem mm_s0 {lv : List (Nat × Value)} : ∀ k v, mm_get [] k = some v → mm_get lv k = some v := fun _ _ h => by cases h
theorem mm_s1 {lv l : List (Nat × Value)} {i : Nat} {x : Value} (h : mm_get lv i = some x) (hs : ∀ k v, mm_get l k = some v → mm_get lv k = some v) : ∀ k v, mm_get ((i, x) :: l) k = some v → mm_get lv k = some v := by
  intro k v hk
  rcases mm_get_hd hk with ⟨rfl, rfl⟩ | ⟨-, h2⟩
  · exact h
  · exact hs k v h2

theorem mm_iadd {X : mm_X} {M : mm_M} {mc ms pc : Nat} {lv : List (Nat × Value)} {st : List Value} {S : mm_S} {I : mm_I} {cl sl : Nat} {x y : Int32} (hd : decode M.2.2.1 pc = .ok (.iadd, 1))  (k : mm_G X M mc ms (pc + 1) lv (.int (x + y) :: st) S I cl sl) : mm_G X M mc ms pc lv (.int y :: .int x :: st) S I cl sl := fun l D cA z p e R s m args below meth c Qf hX C H locs ls hR hS hL => lv_iadd C.1 C.2.1 hd  (k l D cA z p e R s m args below meth c Qf hX C H locs ls hR hS hL)
theorem mm_isub {X : mm_X} {M : mm_M} {mc ms pc : Nat} {lv : List (Nat × Value)} {st : List Value} {S : mm_S} {I : mm_I} {cl sl : Nat} {x y : Int32} (hd : decode M.2.2.1 pc = .ok (.isub, 1))  (k : mm_G X M mc ms (pc + 1) lv (.int (x - y) :: st) S I cl sl) : mm_G X M mc ms pc lv (.int y :: .int x :: st) S I cl sl := fun l D cA z p e R s m args below meth c Qf hX C H locs ls hR hS hL => lv_isub C.1 C.2.1 hd  (k l D cA z p e R s m args below meth c Qf hX C H locs ls hR hS hL)
theorem mm_imul {X : mm_X} {M : mm_M} {mc ms pc : Nat} {lv : List (Nat × Value)} {st : List Value} {S : mm_S} {I : mm_I} {cl sl : Nat} {x y : Int32} (hd : decode M.2.2.1 pc = .ok (.imul, 1))  (k : mm_G X M mc ms (pc + 1) lv (.int (x * y) :: st) S I cl sl) : mm_G X M mc ms pc lv (.int y :: .int x :: st) S I cl sl := fun l D cA z p e R s m args below meth c Qf hX C H locs ls hR hS hL => lv_imul C.1 C.2.1 hd  (k l D cA z p e R s m args below meth c Qf hX C H locs ls hR hS hL)
theorem mm_iand {X : mm_X} {M : mm_M} {mc ms pc : Nat} {lv : List (Nat × Value)} {st : List Value} {S : mm_S} {I : mm_I} {cl sl : Nat} {x y : Int32} (hd : decode M.2.2.1 pc = .ok (.iand, 1))  (k : mm_G X M mc ms (pc + 1) lv (.int (x &&& y) :: st) S I cl sl) : mm_G X M mc ms pc lv (.int y :: .int x :: st) S I cl sl := fun l D cA z p e R s m args below meth c Qf hX C H locs ls hR hS hL => lv_iand C.1 C.2.1 hd  (k l D cA z p e R s m args below meth c Qf hX C H locs ls hR hS hL)
theorem mm_ior {X : mm_X} {M : mm_M} {mc ms pc : Nat} {lv : List (Nat × Value)} {st : List Value} {S : mm_S} {I : mm_I} {cl sl : Nat} {x y : Int32} (hd : decode M.2.2.1 pc = .ok (.ior, 1))  (k : mm_G X M mc ms (pc + 1) lv (.int (x ||| y) :: st) S I cl sl) : mm_G X M mc ms pc lv (.int y :: .int x :: st) S I cl sl := fun l D cA z p e R s m args below meth c Qf hX C H locs ls hR hS hL => lv_ior C.1 C.2.1 hd  (k l D cA z p e R s m args below meth c Qf hX C H locs ls hR hS hL)
theorem mm_ishl {X : mm_X} {M : mm_M} {mc ms pc : Nat} {lv : List (Nat × Value)} {st : List Value} {S : mm_S} {I : mm_I} {cl sl : Nat} {x y : Int32} (hd : decode M.2.2.1 pc = .ok (.ishl, 1))  (k : mm_G X M mc ms (pc + 1) lv (.int (x <<< (y &&& 31)) :: st) S I cl sl) : mm_G X M mc ms pc lv (.int y :: .int x :: st) S I cl sl := fun l D cA z p e R s m args below meth c Qf hX C H locs ls hR hS hL => lv_ishl C.1 C.2.1 hd  (k l D cA z p e R s m args below meth c Qf hX C H locs ls hR hS hL)
theorem mm_idiv {X : mm_X} {M : mm_M} {mc ms pc : Nat} {lv : List (Nat × Value)} {st : List Value} {S : mm_S} {I : mm_I} {cl sl : Nat} {x y : Int32} (hd : decode M.2.2.1 pc = .ok (.idiv, 1)) (hne : ¬ y = 0) (k : mm_G X M mc ms (pc + 1) lv (.int (x / y) :: st) S I cl sl) : mm_G X M mc ms pc lv (.int y :: .int x :: st) S I cl sl := fun l D cA z p e R s m args below meth c Qf hX C H locs ls hR hS hL => lv_idiv C.1 C.2.1 hd hne (k l D cA z p e R s m args below meth c Qf hX C H locs ls hR hS hL)
theorem mm_ineg {X : mm_X} {M : mm_M} {mc ms pc : Nat} {lv : List (Nat × Value)} {st : List Value} {S : mm_S} {I : mm_I} {cl sl : Nat} {x : Int32} (hd : decode M.2.2.1 pc = .ok (.ineg, 1))  (k : mm_G X M mc ms (pc + 1) lv (.int (-x) :: st) S I cl sl) : mm_G X M mc ms pc lv (.int x :: st) S I cl sl := fun l D cA z p e R s m args below meth c Qf hX C H locs ls hR hS hL => lv_ineg C.1 C.2.1 hd  (k l D cA z p e R s m args below meth c Qf hX C H locs ls hR hS hL)
theorem mm_lmul {X : mm_X} {M : mm_M} {mc ms pc : Nat} {lv : List (Nat × Value)} {st : List Value} {S : mm_S} {I : mm_I} {cl sl : Nat} {x y : Int64} (hd : decode M.2.2.1 pc = .ok (.lmul, 1))  (k : mm_G X M mc ms (pc + 1) lv (.long (x * y) :: st) S I cl sl) : mm_G X M mc ms pc lv (.long y :: .long x :: st) S I cl sl := fun l D cA z p e R s m args below meth c Qf hX C H locs ls hR hS hL => lv_lmul C.1 C.2.1 hd  (k l D cA z p e R s m args below meth c Qf hX C H locs ls hR hS hL)
theorem mm_ldiv {X : mm_X} {M : mm_M} {mc ms pc : Nat} {lv : List (Nat × Value)} {st : List Value} {S : mm_S} {I : mm_I} {cl sl : Nat} {x y : Int64} (hd : decode M.2.2.1 pc = .ok (.ldiv, 1)) (hne : ¬ y = 0) (k : mm_G X M mc ms (pc + 1) lv (.long (x / y) :: st) S I cl sl) : mm_G X M mc ms pc lv (.long y :: .long x :: st) S I cl sl := fun l D cA z p e R s m args below meth c Qf hX C H locs ls hR hS hL => lv_ldiv C.1 C.2.1 hd hne (k l D cA z p e R s m args below meth c Qf hX C H locs ls hR hS hL)
theorem mm_i2l {X : mm_X} {M : mm_M} {mc ms pc : Nat} {lv : List (Nat × Value)} {st : List Value} {S : mm_S} {I : mm_I} {cl sl : Nat} {x : Int32} (hd : decode M.2.2.1 pc = .ok (.i2l, 1))  (k : mm_G X M mc ms (pc + 1) lv (.long x.toInt64 :: st) S I cl sl) : mm_G X M mc ms pc lv (.int x :: st) S I cl sl := fun l D cA z p e R s m args below meth c Qf hX C H locs ls hR hS hL => lv_i2l C.1 C.2.1 hd rfl (k l D cA z p e R s m args below meth c Qf hX C H locs ls hR hS hL)
theorem mm_l2i {X : mm_X} {M : mm_M} {mc ms pc : Nat} {lv : List (Nat × Value)} {st : List Value} {S : mm_S} {I : mm_I} {cl sl : Nat} {x : Int64} (hd : decode M.2.2.1 pc = .ok (.l2i, 1))  (k : mm_G X M mc ms (pc + 1) lv (.int x.toInt32 :: st) S I cl sl) : mm_G X M mc ms pc lv (.long x :: st) S I cl sl := fun l D cA z p e R s m args below meth c Qf hX C H locs ls hR hS hL => lv_l2i C.1 C.2.1 hd rfl (k l D cA z p e R s m args below meth c Qf hX C H locs ls hR hS hL)
theorem mm_i2f {X : mm_X} {M : mm_M} {mc ms pc : Nat} {lv : List (Nat × Value)} {st : List Value} {S : mm_S} {I : mm_I} {cl sl : Nat} {x : Int32} (hd : decode M.2.2.1 pc = .ok (.i2f, 1))  (k : mm_G X M mc ms (pc + 1) lv (.float (FP.i2f x) :: st) S I cl sl) : mm_G X M mc ms pc lv (.int x :: st) S I cl sl := fun l D cA z p e R s m args below meth c Qf hX C H locs ls hR hS hL => lv_i2f C.1 C.2.1 hd  (k l D cA z p e R s m args below meth c Qf hX C H locs ls hR hS hL)
theorem mm_f2i {X : mm_X} {M : mm_M} {mc ms pc : Nat} {lv : List (Nat × Value)} {st : List Value} {S : mm_S} {I : mm_I} {cl sl : Nat} {x : UInt32} (hd : decode M.2.2.1 pc = .ok (.f2i, 1))  (k : mm_G X M mc ms (pc + 1) lv (.int (FP.f2i x) :: st) S I cl sl) : mm_G X M mc ms pc lv (.float x :: st) S I cl sl := fun l D cA z p e R s m args below meth c Qf hX C H locs ls hR hS hL => lv_f2i C.1 C.2.1 hd  (k l D cA z p e R s m args below meth c Qf hX C H locs ls hR hS hL)
theorem mm_fdiv {X : mm_X} {M : mm_M} {mc ms pc : Nat} {lv : List (Nat × Value)} {st : List Value} {S : mm_S} {I : mm_I} {cl sl : Nat} {x y : UInt32} (hd : decode M.2.2.1 pc = .ok (.fdiv, 1)) (hne : vf_n32 (FP.fdiv x y)) (k : mm_G X M mc ms (pc + 1) lv (.float (FP.fdiv x y) :: st) S I cl sl) : mm_G X M mc ms pc lv (.float y :: .float x :: st) S I cl sl := fun l D cA z p e R s m args below meth c Qf hX C H locs ls hR hS hL => lv_fdiv C.1 C.2.1 hd hne (k l D cA z p e R s m args below meth c Qf hX C H locs ls hR hS hL)
theorem mm_fmul {X : mm_X} {M : mm_M} {mc ms pc : Nat} {lv : List (Nat × Value)} {st : List Value} {S : mm_S} {I : mm_I} {cl sl : Nat} {x y : UInt32} (hd : decode M.2.2.1 pc = .ok (.fmul, 1)) (hne : vf_n32 (FP.fmul x y)) (k : mm_G X M mc ms (pc + 1) lv (.float (FP.fmul x y) :: st) S I cl sl) : mm_G X M mc ms pc lv (.float y :: .float x :: st) S I cl sl := fun l D cA z p e R s m args below meth c Qf hX C H locs ls hR hS hL => lv_fmul C.1 C.2.1 hd hne (k l D cA z p e R s m args below meth c Qf hX C H locs ls hR hS hL)
theorem mm_fsub {X : mm_X} {M : mm_M} {mc ms pc : Nat} {lv : List (Nat × Value)} {st : List Value} {S : mm_S} {I : mm_I} {cl sl : Nat} {x y : UInt32} (hd : decode M.2.2.1 pc = .ok (.fsub, 1)) (hne : vf_n32 (FP.fsub x y)) (k : mm_G X M mc ms (pc + 1) lv (.float (FP.fsub x y) :: st) S I cl sl) : mm_G X M mc ms pc lv (.float y :: .float x :: st) S I cl sl := fun l D cA z p e R s m args below meth c Qf hX C H locs ls hR hS hL => lv_fsub C.1 C.2.1 hd hne (k l D cA z p e R s m args below meth c Qf hX C H locs ls hR hS hL)
theorem mm_fcmp {X : mm_X} {M : mm_M} {mc ms pc : Nat} {lv : List (Nat × Value)} {st : List Value} {S : mm_S} {I : mm_I} {cl sl : Nat} {x y : UInt32} {op : CmpOp} (hd : decode M.2.2.1 pc = .ok (.fcmp op, 1))  (k : mm_G X M mc ms (pc + 1) lv (.int (Op.cmpValue (FP.fcmp x y) op) :: st) S I cl sl) : mm_G X M mc ms pc lv (.float y :: .float x :: st) S I cl sl := fun l D cA z p e R s m args below meth c Qf hX C H locs ls hR hS hL => lv_fcmp C.1 C.2.1 hd  (k l D cA z p e R s m args below meth c Qf hX C H locs ls hR hS hL)
theorem mm_fconst0 {X : mm_X} {M : mm_M} {mc ms pc : Nat} {lv : List (Nat × Value)} {st : List Value} {S : mm_S} {I : mm_I} {cl sl : Nat}  (hd : decode M.2.2.1 pc = .ok (.fconst 0, 1))  (k : mm_G X M mc ms (pc + 1) lv (.float FP.fconst0 :: st) S I cl sl) : mm_G X M mc ms pc lv (st) S I cl sl := fun l D cA z p e R s m args below meth c Qf hX C H locs ls hR hS hL => lv_fconst0 C.1 C.2.1 hd  (k l D cA z p e R s m args below meth c Qf hX C H locs ls hR hS hL)
theorem mm_fconst1 {X : mm_X} {M : mm_M} {mc ms pc : Nat} {lv : List (Nat × Value)} {st : List Value} {S : mm_S} {I : mm_I} {cl sl : Nat}  (hd : decode M.2.2.1 pc = .ok (.fconst 1, 1))  (k : mm_G X M mc ms (pc + 1) lv (.float FP.fconst1 :: st) S I cl sl) : mm_G X M mc ms pc lv (st) S I cl sl := fun l D cA z p e R s m args below meth c Qf hX C H locs ls hR hS hL => lv_fconst1 C.1 C.2.1 hd  (k l D cA z p e R s m args below meth c Qf hX C H locs ls hR hS hL)
theorem mm_fconst2 {X : mm_X} {M : mm_M} {mc ms pc : Nat} {lv : List (Nat × Value)} {st : List Value} {S : mm_S} {I : mm_I} {cl sl : Nat}  (hd : decode M.2.2.1 pc = .ok (.fconst 2, 1))  (k : mm_G X M mc ms (pc + 1) lv (.float FP.fconst2 :: st) S I cl sl) : mm_G X M mc ms pc lv (st) S I cl sl := fun l D cA z p e R s m args below meth c Qf hX C H locs ls hR hS hL => lv_fconst2 C.1 C.2.1 hd  (k l D cA z p e R s m args below meth c Qf hX C H locs ls hR hS hL)
theorem mm_iconst {X : mm_X} {M : mm_M} {mc ms pc : Nat} {lv : List (Nat × Value)} {st : List Value} {S : mm_S} {I : mm_I} {cl sl : Nat} {n : Int} (v : Int32) (hd : decode M.2.2.1 pc = .ok (.iconst n, 1)) (hv : Int32.ofInt n = v) (k : mm_G X M mc ms (pc + 1) lv (.int v :: st) S I cl sl) : mm_G X M mc ms pc lv (st) S I cl sl := fun l D cA z p e R s m args below meth c Qf hX C H locs ls hR hS hL => lv_iconst C.1 C.2.1 hd hv (k l D cA z p e R s m args below meth c Qf hX C H locs ls hR hS hL)
theorem mm_bipush {X : mm_X} {M : mm_M} {mc ms pc : Nat} {lv : List (Nat × Value)} {st : List Value} {S : mm_S} {I : mm_I} {cl sl : Nat} {n : Int} (v : Int32) (hd : decode M.2.2.1 pc = .ok (.bipush n, 2)) (hv : (Int8.ofInt n).toInt32 = v) (k : mm_G X M mc ms (pc + 2) lv (.int v :: st) S I cl sl) : mm_G X M mc ms pc lv (st) S I cl sl := fun l D cA z p e R s m args below meth c Qf hX C H locs ls hR hS hL => lv_bipush C.1 C.2.1 hd hv (k l D cA z p e R s m args below meth c Qf hX C H locs ls hR hS hL)
theorem mm_sipush {X : mm_X} {M : mm_M} {mc ms pc : Nat} {lv : List (Nat × Value)} {st : List Value} {S : mm_S} {I : mm_I} {cl sl : Nat} {n : Int} (v : Int32) (hd : decode M.2.2.1 pc = .ok (.sipush n, 3)) (hv : (Int16.ofInt n).toInt32 = v) (k : mm_G X M mc ms (pc + 3) lv (.int v :: st) S I cl sl) : mm_G X M mc ms pc lv (st) S I cl sl := fun l D cA z p e R s m args below meth c Qf hX C H locs ls hR hS hL => lv_sipush C.1 C.2.1 hd hv (k l D cA z p e R s m args below meth c Qf hX C H locs ls hR hS hL)
theorem mm_dup {X : mm_X} {M : mm_M} {mc ms pc : Nat} {lv : List (Nat × Value)} {st : List Value} {S : mm_S} {I : mm_I} {cl sl : Nat} {va : Value} (hd : decode M.2.2.1 pc = .ok (.dup, 1)) (hva : va.category = 1) (k : mm_G X M mc ms (pc + 1) lv (va :: va :: st) S I cl sl) : mm_G X M mc ms pc lv (va :: st) S I cl sl := fun l D cA z p e R s m args below meth c Qf hX C H locs ls hR hS hL => lv_dup C.1 C.2.1 hd hva (k l D cA z p e R s m args below meth c Qf hX C H locs ls hR hS hL)
theorem mm_dup2 {X : mm_X} {M : mm_M} {mc ms pc : Nat} {lv : List (Nat × Value)} {st : List Value} {S : mm_S} {I : mm_I} {cl sl : Nat} {va vb : Value} (hd : decode M.2.2.1 pc = .ok (.dup2, 1)) (hva : va.category = 1) (hvb : vb.category = 1) (k : mm_G X M mc ms (pc + 1) lv (va :: vb :: va :: vb :: st) S I cl sl) : mm_G X M mc ms pc lv (va :: vb :: st) S I cl sl := fun l D cA z p e R s m args below meth c Qf hX C H locs ls hR hS hL => lv_dup2_11 C.1 C.2.1 hd hva hvb (k l D cA z p e R s m args below meth c Qf hX C H locs ls hR hS hL)
theorem mm_pop {X : mm_X} {M : mm_M} {mc ms pc : Nat} {lv : List (Nat × Value)} {st : List Value} {S : mm_S} {I : mm_I} {cl sl : Nat} {va : Value} (hd : decode M.2.2.1 pc = .ok (.pop, 1)) (hva : va.category = 1) (k : mm_G X M mc ms (pc + 1) lv (st) S I cl sl) : mm_G X M mc ms pc lv (va :: st) S I cl sl := fun l D cA z p e R s m args below meth c Qf hX C H locs ls hR hS hL => lv_pop C.1 C.2.1 hd hva (k l D cA z p e R s m args below meth c Qf hX C H locs ls hR hS hL)
theorem mm_null {X : mm_X} {M : mm_M} {mc ms pc : Nat} {lv : List (Nat × Value)} {st : List Value} {S : mm_S} {I : mm_I} {cl sl : Nat}  (hd : decode M.2.2.1 pc = .ok (.aconst_null, 1))  (k : mm_G X M mc ms (pc + 1) lv (.null :: st) S I cl sl) : mm_G X M mc ms pc lv (st) S I cl sl := fun l D cA z p e R s m args below meth c Qf hX C H locs ls hR hS hL => lv_null C.1 C.2.1 hd  (k l D cA z p e R s m args below meth c Qf hX C H locs ls hR hS hL)
theorem mm_iload_n {X : mm_X} {M : mm_M} {mc ms pc : Nat} {lv : List (Nat × Value)} {st : List Value} {S : mm_S} {I : mm_I} {cl sl : Nat} {j : Fin 4} {i : Nat} {x : Int32} (hd : decode M.2.2.1 pc = .ok (.iload_n j, 1)) (hi : (j : Nat) = i) (hl : mm_get lv i = some (.int x)) (k : mm_G X M mc ms (pc + 1) lv (.int x :: st) S I cl sl) : mm_G X M mc ms pc lv st S I cl sl := fun l D cA z p e R s m args below meth c Qf hX C H locs ls hR hS hL => lv_iload_n C.1 C.2.1 hd hi (mm_L.at hL hl) (k l D cA z p e R s m args below meth c Qf hX C H locs ls hR hS hL)
theorem mm_iload {X : mm_X} {M : mm_M} {mc ms pc : Nat} {lv : List (Nat × Value)} {st : List Value} {S : mm_S} {I : mm_I} {cl sl : Nat} {i : Nat} {x : Int32} (hd : decode M.2.2.1 pc = .ok (.iload i, 2)) (hl : mm_get lv i = some (.int x)) (k : mm_G X M mc ms (pc + 2) lv (.int x :: st) S I cl sl) : mm_G X M mc ms pc lv st S I cl sl := fun l D cA z p e R s m args below meth c Qf hX C H locs ls hR hS hL => lv_iload C.1 C.2.1 hd (mm_L.at hL hl) (k l D cA z p e R s m args below meth c Qf hX C H locs ls hR hS hL)
theorem mm_aload_n {X : mm_X} {M : mm_M} {mc ms pc : Nat} {lv : List (Nat × Value)} {st : List Value} {S : mm_S} {I : mm_I} {cl sl : Nat} {j : Fin 4} {i : Nat} {x : Nat} (hd : decode M.2.2.1 pc = .ok (.aload_n j, 1)) (hi : (j : Nat) = i) (hl : mm_get lv i = some (.ref x)) (k : mm_G X M mc ms (pc + 1) lv (.ref x :: st) S I cl sl) : mm_G X M mc ms pc lv st S I cl sl := fun l D cA z p e R s m args below meth c Qf hX C H locs ls hR hS hL => lv_aload_n C.1 C.2.1 hd hi (mm_L.at hL hl) (k l D cA z p e R s m args below meth c Qf hX C H locs ls hR hS hL)
theorem mm_aload {X : mm_X} {M : mm_M} {mc ms pc : Nat} {lv : List (Nat × Value)} {st : List Value} {S : mm_S} {I : mm_I} {cl sl : Nat} {i : Nat} {x : Nat} (hd : decode M.2.2.1 pc = .ok (.aload i, 2)) (hl : mm_get lv i = some (.ref x)) (k : mm_G X M mc ms (pc + 2) lv (.ref x :: st) S I cl sl) : mm_G X M mc ms pc lv st S I cl sl := fun l D cA z p e R s m args below meth c Qf hX C H locs ls hR hS hL => lv_aload C.1 C.2.1 hd (mm_L.at hL hl) (k l D cA z p e R s m args below meth c Qf hX C H locs ls hR hS hL)
theorem mm_fload_n {X : mm_X} {M : mm_M} {mc ms pc : Nat} {lv : List (Nat × Value)} {st : List Value} {S : mm_S} {I : mm_I} {cl sl : Nat} {j : Fin 4} {i : Nat} {x : UInt32} (hd : decode M.2.2.1 pc = .ok (.fload_n j, 1)) (hi : (j : Nat) = i) (hl : mm_get lv i = some (.float x)) (k : mm_G X M mc ms (pc + 1) lv (.float x :: st) S I cl sl) : mm_G X M mc ms pc lv st S I cl sl := fun l D cA z p e R s m args below meth c Qf hX C H locs ls hR hS hL => lv_fload_n C.1 C.2.1 hd hi (mm_L.at hL hl) (k l D cA z p e R s m args below meth c Qf hX C H locs ls hR hS hL)
theorem mm_fload {X : mm_X} {M : mm_M} {mc ms pc : Nat} {lv : List (Nat × Value)} {st : List Value} {S : mm_S} {I : mm_I} {cl sl : Nat} {i : Nat} {x : UInt32} (hd : decode M.2.2.1 pc = .ok (.fload i, 2)) (hl : mm_get lv i = some (.float x)) (k : mm_G X M mc ms (pc + 2) lv (.float x :: st) S I cl sl) : mm_G X M mc ms pc lv st S I cl sl := fun l D cA z p e R s m args below meth c Qf hX C H locs ls hR hS hL => lv_fload C.1 C.2.1 hd (mm_L.at hL hl) (k l D cA z p e R s m args below meth c Qf hX C H locs ls hR hS hL)
theorem mm_aloadN_n {X : mm_X} {M : mm_M} {mc ms pc : Nat} {lv : List (Nat × Value)} {st : List Value} {S : mm_S} {I : mm_I} {cl sl : Nat} {j : Fin 4} {i : Nat} (hd : decode M.2.2.1 pc = .ok (.aload_n j, 1)) (hi : (j : Nat) = i) (hl : mm_get lv i = some (.null)) (k : mm_G X M mc ms (pc + 1) lv (.null :: st) S I cl sl) : mm_G X M mc ms pc lv st S I cl sl := fun l D cA z p e R s m args below meth c Qf hX C H locs ls hR hS hL => lv_aload_nN C.1 C.2.1 hd hi (mm_L.at hL hl) (k l D cA z p e R s m args below meth c Qf hX C H locs ls hR hS hL)
theorem mm_aloadN {X : mm_X} {M : mm_M} {mc ms pc : Nat} {lv : List (Nat × Value)} {st : List Value} {S : mm_S} {I : mm_I} {cl sl : Nat} {i : Nat} (hd : decode M.2.2.1 pc = .ok (.aload i, 2)) (hl : mm_get lv i = some (.null)) (k : mm_G X M mc ms (pc + 2) lv (.null :: st) S I cl sl) : mm_G X M mc ms pc lv st S I cl sl := fun l D cA z p e R s m args below meth c Qf hX C H locs ls hR hS hL => lv_aloadN C.1 C.2.1 hd (mm_L.at hL hl) (k l D cA z p e R s m args below meth c Qf hX C H locs ls hR hS hL)
theorem mm_istore_n {X : mm_X} {M : mm_M} {mc ms pc : Nat} {lv : List (Nat × Value)} {st : List Value} {S : mm_S} {I : mm_I} {cl sl : Nat} {j : Fin 4} {i : Nat} {x : Int32} (hd : decode M.2.2.1 pc = .ok (.istore_n j, 1)) (hi : (j : Nat) = i) (hn : i < M.2.2.2.1) (k : mm_G X M mc ms (pc + 1) ((i, .int x) :: lv) st S I cl sl) : mm_G X M mc ms pc lv (.int x :: st) S I cl sl := fun l D cA z p e R s m args below meth c Qf hX C H locs ls hR hS hL => lv_istore_n C.1 C.2.1 hd hi (mm_L.has hL) hn rfl (fun ls2 h2 => k l D cA z p e R s m args below meth c Qf hX C H locs ls2 hR hS (mm_L.st hL h2 rfl))
theorem mm_istore {X : mm_X} {M : mm_M} {mc ms pc : Nat} {lv : List (Nat × Value)} {st : List Value} {S : mm_S} {I : mm_I} {cl sl : Nat} {i : Nat} {x : Int32} (hd : decode M.2.2.1 pc = .ok (.istore i, 2)) (hn : i < M.2.2.2.1) (k : mm_G X M mc ms (pc + 2) ((i, .int x) :: lv) st S I cl sl) : mm_G X M mc ms pc lv (.int x :: st) S I cl sl := fun l D cA z p e R s m args below meth c Qf hX C H locs ls hR hS hL => lv_istore C.1 C.2.1 hd (mm_L.has hL) hn rfl (fun ls2 h2 => k l D cA z p e R s m args below meth c Qf hX C H locs ls2 hR hS (mm_L.st hL h2 rfl))
theorem mm_astore_n {X : mm_X} {M : mm_M} {mc ms pc : Nat} {lv : List (Nat × Value)} {st : List Value} {S : mm_S} {I : mm_I} {cl sl : Nat} {j : Fin 4} {i : Nat} {x : Nat} (hd : decode M.2.2.1 pc = .ok (.astore_n j, 1)) (hi : (j : Nat) = i) (hn : i < M.2.2.2.1) (k : mm_G X M mc ms (pc + 1) ((i, .ref x) :: lv) st S I cl sl) : mm_G X M mc ms pc lv (.ref x :: st) S I cl sl := fun l D cA z p e R s m args below meth c Qf hX C H locs ls hR hS hL => lv_astore_n C.1 C.2.1 hd hi (mm_L.has hL) hn rfl (fun ls2 h2 => k l D cA z p e R s m args below meth c Qf hX C H locs ls2 hR hS (mm_L.st hL h2 rfl))
theorem mm_astore {X : mm_X} {M : mm_M} {mc ms pc : Nat} {lv : List (Nat × Value)} {st : List Value} {S : mm_S} {I : mm_I} {cl sl : Nat} {i : Nat} {x : Nat} (hd : decode M.2.2.1 pc = .ok (.astore i, 2)) (hn : i < M.2.2.2.1) (k : mm_G X M mc ms (pc + 2) ((i, .ref x) :: lv) st S I cl sl) : mm_G X M mc ms pc lv (.ref x :: st) S I cl sl := fun l D cA z p e R s m args below meth c Qf hX C H locs ls hR hS hL => lv_astore C.1 C.2.1 hd (mm_L.has hL) hn rfl (fun ls2 h2 => k l D cA z p e R s m args below meth c Qf hX C H locs ls2 hR hS (mm_L.st hL h2 rfl))
theorem mm_fstore_n {X : mm_X} {M : mm_M} {mc ms pc : Nat} {lv : List (Nat × Value)} {st : List Value} {S : mm_S} {I : mm_I} {cl sl : Nat} {j : Fin 4} {i : Nat} {x : UInt32} (hd : decode M.2.2.1 pc = .ok (.fstore_n j, 1)) (hi : (j : Nat) = i) (hn : i < M.2.2.2.1) (k : mm_G X M mc ms (pc + 1) ((i, .float x) :: lv) st S I cl sl) : mm_G X M mc ms pc lv (.float x :: st) S I cl sl := fun l D cA z p e R s m args below meth c Qf hX C H locs ls hR hS hL => lv_fstore_n C.1 C.2.1 hd hi (mm_L.has hL) hn rfl (fun ls2 h2 => k l D cA z p e R s m args below meth c Qf hX C H locs ls2 hR hS (mm_L.st hL h2 rfl))
theorem mm_fstore {X : mm_X} {M : mm_M} {mc ms pc : Nat} {lv : List (Nat × Value)} {st : List Value} {S : mm_S} {I : mm_I} {cl sl : Nat} {i : Nat} {x : UInt32} (hd : decode M.2.2.1 pc = .ok (.fstore i, 2)) (hn : i < M.2.2.2.1) (k : mm_G X M mc ms (pc + 2) ((i, .float x) :: lv) st S I cl sl) : mm_G X M mc ms pc lv (.float x :: st) S I cl sl := fun l D cA z p e R s m args below meth c Qf hX C H locs ls hR hS hL => lv_fstore C.1 C.2.1 hd (mm_L.has hL) hn rfl (fun ls2 h2 => k l D cA z p e R s m args below meth c Qf hX C H locs ls2 hR hS (mm_L.st hL h2 rfl))
theorem mm_astoreN_n {X : mm_X} {M : mm_M} {mc ms pc : Nat} {lv : List (Nat × Value)} {st : List Value} {S : mm_S} {I : mm_I} {cl sl : Nat} {j : Fin 4} {i : Nat}  (hd : decode M.2.2.1 pc = .ok (.astore_n j, 1)) (hi : (j : Nat) = i) (hn : i < M.2.2.2.1) (k : mm_G X M mc ms (pc + 1) ((i, .null) :: lv) st S I cl sl) : mm_G X M mc ms pc lv (.null :: st) S I cl sl := fun l D cA z p e R s m args below meth c Qf hX C H locs ls hR hS hL => lv_astore_nN C.1 C.2.1 hd hi (mm_L.has hL) hn rfl (fun ls2 h2 => k l D cA z p e R s m args below meth c Qf hX C H locs ls2 hR hS (mm_L.st hL h2 rfl))
theorem mm_astoreN {X : mm_X} {M : mm_M} {mc ms pc : Nat} {lv : List (Nat × Value)} {st : List Value} {S : mm_S} {I : mm_I} {cl sl : Nat} {i : Nat}  (hd : decode M.2.2.1 pc = .ok (.astore i, 2)) (hn : i < M.2.2.2.1) (k : mm_G X M mc ms (pc + 2) ((i, .null) :: lv) st S I cl sl) : mm_G X M mc ms pc lv (.null :: st) S I cl sl := fun l D cA z p e R s m args below meth c Qf hX C H locs ls hR hS hL => lv_astoreN C.1 C.2.1 hd (mm_L.has hL) hn rfl (fun ls2 h2 => k l D cA z p e R s m args below meth c Qf hX C H locs ls2 hR hS (mm_L.st hL h2 rfl))
theorem mm_if_eq {X : mm_X} {M : mm_M} {mc ms pc : Nat} {lv : List (Nat × Value)} {st : List Value} {S : mm_S} {I : mm_I} {cl sl : Nat} {x : Int32} {off : Int} (tgt : Nat) (hd : decode M.2.2.1 pc = .ok (.ifCond .eq off, 3)) (ht : (pc : Int) + off = (tgt : Int)) (kt : x = 0 → mm_G X M mc ms tgt lv st S I cl sl) (kf : ¬ x = 0 → mm_G X M mc ms (pc + 3) lv st S I cl sl) : mm_G X M mc ms pc lv (.int x :: st) S I cl sl := fun l D cA z p e R s m args below meth c Qf hX C H locs ls hR hS hL => lv_if_eq C.1 C.2.1 hd ht (fun q => kt q l D cA z p e R s m args below meth c Qf hX C H locs ls hR hS hL) (fun q => kf q l D cA z p e R s m args below meth c Qf hX C H locs ls hR hS hL)
theorem mm_icmp_eq {X : mm_X} {M : mm_M} {mc ms pc : Nat} {lv : List (Nat × Value)} {st : List Value} {S : mm_S} {I : mm_I} {cl sl : Nat} {x y : Int32} {off : Int} (tgt : Nat) (hd : decode M.2.2.1 pc = .ok (.if_icmp .eq off, 3)) (ht : (pc : Int) + off = (tgt : Int)) (kt : x = y → mm_G X M mc ms tgt lv st S I cl sl) (kf : ¬ x = y → mm_G X M mc ms (pc + 3) lv st S I cl sl) : mm_G X M mc ms pc lv (.int y :: .int x :: st) S I cl sl := fun l D cA z p e R s m args below meth c Qf hX C H locs ls hR hS hL => lv_icmp_eq C.1 C.2.1 hd ht (fun q => kt q l D cA z p e R s m args below meth c Qf hX C H locs ls hR hS hL) (fun q => kf q l D cA z p e R s m args below meth c Qf hX C H locs ls hR hS hL)
theorem mm_if_ne {X : mm_X} {M : mm_M} {mc ms pc : Nat} {lv : List (Nat × Value)} {st : List Value} {S : mm_S} {I : mm_I} {cl sl : Nat} {x : Int32} {off : Int} (tgt : Nat) (hd : decode M.2.2.1 pc = .ok (.ifCond .ne off, 3)) (ht : (pc : Int) + off = (tgt : Int)) (kt : ¬ x = 0 → mm_G X M mc ms tgt lv st S I cl sl) (kf : x = 0 → mm_G X M mc ms (pc + 3) lv st S I cl sl) : mm_G X M mc ms pc lv (.int x :: st) S I cl sl := fun l D cA z p e R s m args below meth c Qf hX C H locs ls hR hS hL => lv_if_ne C.1 C.2.1 hd ht (fun q => kt q l D cA z p e R s m args below meth c Qf hX C H locs ls hR hS hL) (fun q => kf q l D cA z p e R s m args below meth c Qf hX C H locs ls hR hS hL)
theorem mm_icmp_ne {X : mm_X} {M : mm_M} {mc ms pc : Nat} {lv : List (Nat × Value)} {st : List Value} {S : mm_S} {I : mm_I} {cl sl : Nat} {x y : Int32} {off : Int} (tgt : Nat) (hd : decode M.2.2.1 pc = .ok (.if_icmp .ne off, 3)) (ht : (pc : Int) + off = (tgt : Int)) (kt : ¬ x = y → mm_G X M mc ms tgt lv st S I cl sl) (kf : x = y → mm_G X M mc ms (pc + 3) lv st S I cl sl) : mm_G X M mc ms pc lv (.int y :: .int x :: st) S I cl sl := fun l D cA z p e R s m args below meth c Qf hX C H locs ls hR hS hL => lv_icmp_ne C.1 C.2.1 hd ht (fun q => kt q l D cA z p e R s m args below meth c Qf hX C H locs ls hR hS hL) (fun q => kf q l D cA z p e R s m args below meth c Qf hX C H locs ls hR hS hL)
theorem mm_if_lt {X : mm_X} {M : mm_M} {mc ms pc : Nat} {lv : List (Nat × Value)} {st : List Value} {S : mm_S} {I : mm_I} {cl sl : Nat} {x : Int32} {off : Int} (tgt : Nat) (hd : decode M.2.2.1 pc = .ok (.ifCond .lt off, 3)) (ht : (pc : Int) + off = (tgt : Int)) (kt : x < 0 → mm_G X M mc ms tgt lv st S I cl sl) (kf : ¬ x < 0 → mm_G X M mc ms (pc + 3) lv st S I cl sl) : mm_G X M mc ms pc lv (.int x :: st) S I cl sl := fun l D cA z p e R s m args below meth c Qf hX C H locs ls hR hS hL => lv_if_lt C.1 C.2.1 hd ht (fun q => kt q l D cA z p e R s m args below meth c Qf hX C H locs ls hR hS hL) (fun q => kf q l D cA z p e R s m args below meth c Qf hX C H locs ls hR hS hL)
theorem mm_icmp_lt {X : mm_X} {M : mm_M} {mc ms pc : Nat} {lv : List (Nat × Value)} {st : List Value} {S : mm_S} {I : mm_I} {cl sl : Nat} {x y : Int32} {off : Int} (tgt : Nat) (hd : decode M.2.2.1 pc = .ok (.if_icmp .lt off, 3)) (ht : (pc : Int) + off = (tgt : Int)) (kt : x < y → mm_G X M mc ms tgt lv st S I cl sl) (kf : ¬ x < y → mm_G X M mc ms (pc + 3) lv st S I cl sl) : mm_G X M mc ms pc lv (.int y :: .int x :: st) S I cl sl := fun l D cA z p e R s m args below meth c Qf hX C H locs ls hR hS hL => lv_icmp_lt C.1 C.2.1 hd ht (fun q => kt q l D cA z p e R s m args below meth c Qf hX C H locs ls hR hS hL) (fun q => kf q l D cA z p e R s m args below meth c Qf hX C H locs ls hR hS hL)
theorem mm_if_ge {X : mm_X} {M : mm_M} {mc ms pc : Nat} {lv : List (Nat × Value)} {st : List Value} {S : mm_S} {I : mm_I} {cl sl : Nat} {x : Int32} {off : Int} (tgt : Nat) (hd : decode M.2.2.1 pc = .ok (.ifCond .ge off, 3)) (ht : (pc : Int) + off = (tgt : Int)) (kt : 0 ≤ x → mm_G X M mc ms tgt lv st S I cl sl) (kf : ¬ 0 ≤ x → mm_G X M mc ms (pc + 3) lv st S I cl sl) : mm_G X M mc ms pc lv (.int x :: st) S I cl sl := fun l D cA z p e R s m args below meth c Qf hX C H locs ls hR hS hL => lv_if_ge C.1 C.2.1 hd ht (fun q => kt q l D cA z p e R s m args below meth c Qf hX C H locs ls hR hS hL) (fun q => kf q l D cA z p e R s m args below meth c Qf hX C H locs ls hR hS hL)
theorem mm_icmp_ge {X : mm_X} {M : mm_M} {mc ms pc : Nat} {lv : List (Nat × Value)} {st : List Value} {S : mm_S} {I : mm_I} {cl sl : Nat} {x y : Int32} {off : Int} (tgt : Nat) (hd : decode M.2.2.1 pc = .ok (.if_icmp .ge off, 3)) (ht : (pc : Int) + off = (tgt : Int)) (kt : y ≤ x → mm_G X M mc ms tgt lv st S I cl sl) (kf : ¬ y ≤ x → mm_G X M mc ms (pc + 3) lv st S I cl sl) : mm_G X M mc ms pc lv (.int y :: .int x :: st) S I cl sl := fun l D cA z p e R s m args below meth c Qf hX C H locs ls hR hS hL => lv_icmp_ge C.1 C.2.1 hd ht (fun q => kt q l D cA z p e R s m args below meth c Qf hX C H locs ls hR hS hL) (fun q => kf q l D cA z p e R s m args below meth c Qf hX C H locs ls hR hS hL)
theorem mm_if_gt {X : mm_X} {M : mm_M} {mc ms pc : Nat} {lv : List (Nat × Value)} {st : List Value} {S : mm_S} {I : mm_I} {cl sl : Nat} {x : Int32} {off : Int} (tgt : Nat) (hd : decode M.2.2.1 pc = .ok (.ifCond .gt off, 3)) (ht : (pc : Int) + off = (tgt : Int)) (kt : 0 < x → mm_G X M mc ms tgt lv st S I cl sl) (kf : ¬ 0 < x → mm_G X M mc ms (pc + 3) lv st S I cl sl) : mm_G X M mc ms pc lv (.int x :: st) S I cl sl := fun l D cA z p e R s m args below meth c Qf hX C H locs ls hR hS hL => lv_if_gt C.1 C.2.1 hd ht (fun q => kt q l D cA z p e R s m args below meth c Qf hX C H locs ls hR hS hL) (fun q => kf q l D cA z p e R s m args below meth c Qf hX C H locs ls hR hS hL)
theorem mm_icmp_gt {X : mm_X} {M : mm_M} {mc ms pc : Nat} {lv : List (Nat × Value)} {st : List Value} {S : mm_S} {I : mm_I} {cl sl : Nat} {x y : Int32} {off : Int} (tgt : Nat) (hd : decode M.2.2.1 pc = .ok (.if_icmp .gt off, 3)) (ht : (pc : Int) + off = (tgt : Int)) (kt : y < x → mm_G X M mc ms tgt lv st S I cl sl) (kf : ¬ y < x → mm_G X M mc ms (pc + 3) lv st S I cl sl) : mm_G X M mc ms pc lv (.int y :: .int x :: st) S I cl sl := fun l D cA z p e R s m args below meth c Qf hX C H locs ls hR hS hL => lv_icmp_gt C.1 C.2.1 hd ht (fun q => kt q l D cA z p e R s m args below meth c Qf hX C H locs ls hR hS hL) (fun q => kf q l D cA z p e R s m args below meth c Qf hX C H locs ls hR hS hL)
theorem mm_if_le {X : mm_X} {M : mm_M} {mc ms pc : Nat} {lv : List (Nat × Value)} {st : List Value} {S : mm_S} {I : mm_I} {cl sl : Nat} {x : Int32} {off : Int} (tgt : Nat) (hd : decode M.2.2.1 pc = .ok (.ifCond .le off, 3)) (ht : (pc : Int) + off = (tgt : Int)) (kt : x ≤ 0 → mm_G X M mc ms tgt lv st S I cl sl) (kf : ¬ x ≤ 0 → mm_G X M mc ms (pc + 3) lv st S I cl sl) : mm_G X M mc ms pc lv (.int x :: st) S I cl sl := fun l D cA z p e R s m args below meth c Qf hX C H locs ls hR hS hL => lv_if_le C.1 C.2.1 hd ht (fun q => kt q l D cA z p e R s m args below meth c Qf hX C H locs ls hR hS hL) (fun q => kf q l D cA z p e R s m args below meth c Qf hX C H locs ls hR hS hL)
theorem mm_icmp_le {X : mm_X} {M : mm_M} {mc ms pc : Nat} {lv : List (Nat × Value)} {st : List Value} {S : mm_S} {I : mm_I} {cl sl : Nat} {x y : Int32} {off : Int} (tgt : Nat) (hd : decode M.2.2.1 pc = .ok (.if_icmp .le off, 3)) (ht : (pc : Int) + off = (tgt : Int)) (kt : x ≤ y → mm_G X M mc ms tgt lv st S I cl sl) (kf : ¬ x ≤ y → mm_G X M mc ms (pc + 3) lv st S I cl sl) : mm_G X M mc ms pc lv (.int y :: .int x :: st) S I cl sl := fun l D cA z p e R s m args below meth c Qf hX C H locs ls hR hS hL => lv_icmp_le C.1 C.2.1 hd ht (fun q => kt q l D cA z p e R s m args below meth c Qf hX C H locs ls hR hS hL) (fun q => kf q l D cA z p e R s m args below meth c Qf hX C H locs ls hR hS hL)
theorem mm_goto {X : mm_X} {M : mm_M} {mc ms pc : Nat} {lv : List (Nat × Value)} {st : List Value} {S : mm_S} {I : mm_I} {cl sl : Nat} {off : Int} (tgt : Nat) (hd : decode M.2.2.1 pc = .ok (.goto off, 3)) (ht : (pc : Int) + off = (tgt : Int)) (k : mm_G X M mc ms tgt lv st S I cl sl) : mm_G X M mc ms pc lv st S I cl sl := fun l D cA z p e R s m args below meth c Qf hX C H locs ls hR hS hL => lv_goto C.1 C.2.1 hd ht (k l D cA z p e R s m args below meth c Qf hX C H locs ls hR hS hL)
theorem mm_ifnull {X : mm_X} {M : mm_M} {mc ms pc : Nat} {lv : List (Nat × Value)} {st : List Value} {S : mm_S} {I : mm_I} {cl sl : Nat} {x : Nat} {off : Int} (hd : decode M.2.2.1 pc = .ok (.ifnull off, 3)) (k : mm_G X M mc ms (pc + 3) lv st S I cl sl) : mm_G X M mc ms pc lv (.ref x :: st) S I cl sl := fun l D cA z p e R s m args below meth c Qf hX C H locs ls hR hS hL => lv_ifnull C.1 C.2.1 hd (k l D cA z p e R s m args below meth c Qf hX C H locs ls hR hS hL)
theorem mm_ifnullN {X : mm_X} {M : mm_M} {mc ms pc : Nat} {lv : List (Nat × Value)} {st : List Value} {S : mm_S} {I : mm_I} {cl sl : Nat} {off : Int} (tgt : Nat) (hd : decode M.2.2.1 pc = .ok (.ifnull off, 3)) (ht : (pc : Int) + off = (tgt : Int)) (k : mm_G X M mc ms tgt lv st S I cl sl) : mm_G X M mc ms pc lv (.null :: st) S I cl sl := fun l D cA z p e R s m args below meth c Qf hX C H locs ls hR hS hL => lv_ifnullN C.1 C.2.1 hd ht (k l D cA z p e R s m args below meth c Qf hX C H locs ls hR hS hL)
theorem mm_ifnonnull {X : mm_X} {M : mm_M} {mc ms pc : Nat} {lv : List (Nat × Value)} {st : List Value} {S : mm_S} {I : mm_I} {cl sl : Nat} {x : Nat} {off : Int} (tgt : Nat) (hd : decode M.2.2.1 pc = .ok (.ifnonnull off, 3)) (ht : (pc : Int) + off = (tgt : Int)) (k : mm_G X M mc ms tgt lv st S I cl sl) : mm_G X M mc ms pc lv (.ref x :: st) S I cl sl := fun l D cA z p e R s m args below meth c Qf hX C H locs ls hR hS hL => lv_ifnonnull C.1 C.2.1 hd ht (k l D cA z p e R s m args below meth c Qf hX C H locs ls hR hS hL)
theorem mm_ifnonnullN {X : mm_X} {M : mm_M} {mc ms pc : Nat} {lv : List (Nat × Value)} {st : List Value} {S : mm_S} {I : mm_I} {cl sl : Nat} {off : Int} (hd : decode M.2.2.1 pc = .ok (.ifnonnull off, 3)) (k : mm_G X M mc ms (pc + 3) lv st S I cl sl) : mm_G X M mc ms pc lv (.null :: st) S I cl sl := fun l D cA z p e R s m args below meth c Qf hX C H locs ls hR hS hL => lv_ifnonnullN C.1 C.2.1 hd (k l D cA z p e R s m args below meth c Qf hX C H locs ls hR hS hL)
theorem mm_tableIn {X : mm_X} {M : mm_M} {mc ms pc : Nat} {lv : List (Nat × Value)} {st : List Value} {S : mm_S} {I : mm_I} {cl sl : Nat} {dflt lo hi : Int} {offs : Array Int} {len : Nat} {x : Int32} {off : Int} (tgt : Nat) (hd : decode M.2.2.1 pc = .ok (.tableswitch dflt lo hi offs, len)) (h1 : ¬ x.toInt < lo) (h2 : ¬ hi < x.toInt) (ho : offs[(x.toInt - lo).toNat]? = some off) (ht : (pc : Int) + off = (tgt : Int)) (k : mm_G X M mc ms tgt lv st S I cl sl) : mm_G X M mc ms pc lv (.int x :: st) S I cl sl := fun l D cA z p e R s m args below meth c Qf hX C H locs ls hR hS hL => lv_tableIn C.1 C.2.1 hd h1 h2 ho ht (k l D cA z p e R s m args below meth c Qf hX C H locs ls hR hS hL)
theorem mm_tableOut {X : mm_X} {M : mm_M} {mc ms pc : Nat} {lv : List (Nat × Value)} {st : List Value} {S : mm_S} {I : mm_I} {cl sl : Nat} {dflt lo hi : Int} {offs : Array Int} {len : Nat} {x : Int32} (tgt : Nat) (hd : decode M.2.2.1 pc = .ok (.tableswitch dflt lo hi offs, len)) (h : x.toInt < lo ∨ hi < x.toInt) (ht : (pc : Int) + dflt = (tgt : Int)) (k : mm_G X M mc ms tgt lv st S I cl sl) : mm_G X M mc ms pc lv (.int x :: st) S I cl sl := fun l D cA z p e R s m args below meth c Qf hX C H locs ls hR hS hL => lv_tableOut C.1 C.2.1 hd h ht (k l D cA z p e R s m args below meth c Qf hX C H locs ls hR hS hL)
theorem mm_lookup {X : mm_X} {M : mm_M} {mc ms pc : Nat} {lv : List (Nat × Value)} {st : List Value} {S : mm_S} {I : mm_I} {cl sl : Nat} {dflt : Int} {ps : Array (Int × Int)} {len : Nat} {x : Int32} {off : Int} (tgt : Nat) (hd : decode M.2.2.1 pc = .ok (.lookupswitch dflt ps, len)) (hp : (ps.toList.zip (ps.toList.drop 1)).all (fun (a, next) => a.1 < next.1) = true) (ho : Op.lookupswitch.offset ps.toList dflt x.toInt = off) (ht : (pc : Int) + off = (tgt : Int)) (k : mm_G X M mc ms tgt lv st S I cl sl) : mm_G X M mc ms pc lv (.int x :: st) S I cl sl := fun l D cA z p e R s m args below meth c Qf hX C H locs ls hR hS hL => lv_lookup C.1 C.2.1 hd hp ho ht (k l D cA z p e R s m args below meth c Qf hX C H locs ls hR hS hL)
section mmRows
variable {X : mm_X} {M : mm_M} {mc ms pc : Nat} {lv : List (Nat × Value)} {st : List Value} {S : mm_S} {I : mm_I} {cl sl : Nat}
theorem mm_topi {x : Int32} (k : ∀ y : Int32, y = x → mm_G X M mc ms pc lv (.int y :: st) S I cl sl) : mm_G X M mc ms pc lv (.int x :: st) S I cl sl := k x rfl
theorem mm_ldc {index : Nat} {v : Int32} (hd : decode M.2.2.1 pc = .ok (.ldc index, 2)) (hw : Cond.constant M.1 index v ∈ mw_all) (k : mm_G X M mc ms (pc + 2) lv (.int v :: st) S I cl sl) : mm_G X M mc ms pc lv st S I cl sl := fun l D cA z p e R s m args below meth c Qf hX C H locs ls hR hS hL =>
  lv_ldc C.1 C.2.1 C.2.2.2.1 (C.2.2.2.2.1 _ hw) hd (k l D cA z p e R s m args below meth c Qf hX C H locs ls hR hS hL)
theorem mm_ldcf {index : Nat} {v : UInt32} (hd : decode M.2.2.1 pc = .ok (.ldc index, 2)) (hw : Cond.constantFloat M.1 index v ∈ mw_all) (k : mm_G X M mc ms (pc + 2) lv (.float v :: st) S I cl sl) : mm_G X M mc ms pc lv st S I cl sl := fun l D cA z p e R s m args below meth c Qf hX C H locs ls hR hS hL =>
  lv_ldcf C.1 C.2.1 C.2.2.2.1 (C.2.2.2.2.1 _ hw) hd (k l D cA z p e R s m args below meth c Qf hX C H locs ls hR hS hL)
theorem mm_iinc {i : Nat} {n : Int} {x : Int32} (v : Int32) (hd : decode M.2.2.1 pc = .ok (.iinc i n, 3)) (hl : mm_get lv i = some (.int x)) (hv : Int32.ofInt n = v) (hn : i < M.2.2.2.1) (k : mm_G X M mc ms (pc + 3) ((i, .int (x + v)) :: lv) st S I cl sl) : mm_G X M mc ms pc lv st S I cl sl := by
  intro l D cA z p e R s m args below meth c Qf hX C H locs ls hR hS hL
  subst hv
  obtain ⟨l1, h1, h2⟩ := id hL
  obtain ⟨j, hj⟩ := List.getElem?_of_mem (h2 i _ hl).1
  refine lv_iinc C.1 C.2.1 hd h1 (k := j) hj rfl hn rfl (fun ls2 h3 => k l D cA z p e R s m args below meth c Qf hX C H locs ls2 hR hS ?_)
  refine ⟨_, h3, fun k w hk => ?_⟩
  rcases mm_get_hd hk with ⟨rfl, rfl⟩ | ⟨hne, hk2⟩
  · exact ⟨List.mem_cons_self, rfl⟩
  · obtain ⟨h4, h5⟩ := h2 k w hk2
    refine ⟨List.mem_cons_of_mem _ (List.mem_filter.mpr ⟨h4, ?_⟩), h5⟩
    simp [hne, h5]
-- fields
def mm_F (own : String) (idx ci k : Nat) : Prop := ci < 9 ∧ k < mm_cn ci ∧ Cond.fieldLink own idx (mm_cT ci k).1 (mm_cT ci k).2.1 (mm_cT ci k).2.2.1 ∈ mw_all
theorem mm_fv_at {cA : Nat → ClassId} {z a ci : Nat} {D : va_G} {H : Heap} (hR : mm_R D cA z S I H) (hc : ci < 9) (ha : (S.2.1 a).1 = ci) : (mm_w cA z S I)[a - z]? = some (a, .inr (ci, (List.range (mm_cn ci)).map (fun k => mm_fv S I a ci k))) := by
  rw [hR.at (by omega), mm_e_obj ha hc]
theorem mm_fv_k {a ci k : Nat} (hk : k < mm_cn ci) : ((List.range (mm_cn ci)).map (fun k => mm_fv S I a ci k))[k]? = some (mm_fv S I a ci k) := by
  rw [List.getElem?_map, List.getElem?_range hk]
  rfl
theorem mm_getI {idx ci k a : Nat} (hd : decode M.2.2.1 pc = .ok (.getfield idx, 3)) (hf : mm_F M.1 idx ci k) (hi : mm_int ci k = true) (ha : (S.2.1 a).1 = ci) (kk : mm_G X M mc ms (pc + 3) lv (.int (I a k) :: st) S I cl sl) : mm_G X M mc ms pc lv (.ref a :: st) S I cl sl := fun l D cA z p e R s m args below meth c Qf hX C H locs ls hR hS hL =>
  va_get C.1 C.2.1 C.2.2.2.2.1 (mm_cw ci hf.1) C.2.2.2.1 C.2.2.2.2.2.2.2.1.1 hR.1 (a - z) (mm_fv_at hR hf.1 ha) (mm_ccl ci hf.1) k hf.2.1 (C.2.2.2.2.1 _ hf.2.2) (fun _ h => h) (v := .int (I a k)) (by rw [mm_fv_k hf.2.1, mm_fv, if_pos hi]) hd (kk l D cA z p e R s m args below meth c Qf hX C H locs ls hR hS hL)
theorem mm_getR {idx ci k a : Nat} {b : Nat} (hd : decode M.2.2.1 pc = .ok (.getfield idx, 3)) (hf : mm_F M.1 idx ci k) (hi : mm_int ci k = false) (ha : (S.2.1 a).1 = ci) (hr : S.2.2 a k = some b) (kk : mm_G X M mc ms (pc + 3) lv (.ref b :: st) S I cl sl) : mm_G X M mc ms pc lv (.ref a :: st) S I cl sl := fun l D cA z p e R s m args below meth c Qf hX C H locs ls hR hS hL =>
  va_get C.1 C.2.1 C.2.2.2.2.1 (mm_cw ci hf.1) C.2.2.2.1 C.2.2.2.2.2.2.2.1.1 hR.1 (a - z) (mm_fv_at hR hf.1 ha) (mm_ccl ci hf.1) k hf.2.1 (C.2.2.2.2.1 _ hf.2.2) (fun _ h => h) (v := .ref b) (by rw [mm_fv_k hf.2.1, mm_fv, if_neg (by rw [hi]; decide), hr]; rfl) hd (kk l D cA z p e R s m args below meth c Qf hX C H locs ls hR hS hL)
theorem mm_R.wrI {D : va_G} {cA : Nat → ClassId} {z : Nat} {H H1 : Heap} {a k : Nat} {x : Int32} (hR : mm_R D cA z S I H) (ha : (S.2.1 a).1 < 12) (hP : va_P D vwCl (mm_w cA z S (mm_wr I a k x)) H1) (hz : H1.size = H.size) : mm_R D cA z S (mm_wr I a k x) H1 := by
  refine ⟨hP, by rw [hz, hR.2.1], hR.2.2.1, hR.2.2.2.1, fun b hb j => ?_⟩
  have h1 := (hR.lt ha).2
  rw [mm_wr_a (by omega)]
  exact hR.2.2.2.2 b hb j
theorem mm_fs_set {a ci k : Nat} {x : Int32} (hi : mm_int ci k = true) : ((List.range (mm_cn ci)).map (fun k => mm_fv S I a ci k)).set k (.int x) = (List.range (mm_cn ci)).map (fun j => mm_fv S (mm_wr I a k x) a ci j) := by
  apply List.ext_getElem?
  intro j
  by_cases hj : j < mm_cn ci
  · by_cases hk : j = k
    · subst hk
      rw [List.getElem?_set_self (by simpa using hj), List.getElem?_map, List.getElem?_range hj]
      simp [mm_fv, hi, mm_wr]
    · rw [List.getElem?_set_ne (Ne.symm hk), List.getElem?_map, List.getElem?_map, List.getElem?_range hj]
      simp [mm_fv, mm_wr, hk]
  · rw [List.getElem?_eq_none (by simp; omega), List.getElem?_eq_none (by simp; omega)]
theorem mm_put0 {idx ci k a : Nat} {x : Int32} (hd : decode M.2.2.1 pc = .ok (.putfield idx, 3)) (hf : mm_F M.1 idx ci k) (hi : mm_int ci k = true) (hfin : (mm_cT ci k).2.2.2 = false) (hn : narrow (mm_cy ci k) (.int x) = .int x) (hfit : fits (mm_cy ci k) (.int x) = true) (ha : (S.2.1 a).1 = ci) (kk : mm_G X M mc ms (pc + 3) lv st S (mm_wr I a k x) cl sl) : mm_G X M mc ms pc lv (.int x :: .ref a :: st) S I cl sl := by
  intro l D cA z p e R s m args below meth c Qf hX C H locs ls hR hS hL
  have hlt := hR.lt (a := a) (by have := hf.1; omega)
  have hat := mm_fv_at hR hf.1 ha
  have hK := C.2.2.2.2.2.2.2.1.1
  have hts := C.2.2.2.2.1
  have hcl := mm_ccl ci hf.1
  have hap := va_apart (own := M.1) hts (mm_cw ci hf.1) (mm_cy ci) (mm_cty ci hf.1) (mm_cnm ci hf.1) hK hcl
  obtain ⟨r, h1, cell, q1, q2, q3, q4⟩ := hR.1 _ _ hat
  have hr : r = (mm_cR ci, mm_cT ci, mm_cn ci) := Option.some.inj (h1.symm.trans hcl)
  subst hr
  obtain ⟨hSl, hfc, kC, hkC, hkind⟩ := hK.1 ci _ hcl
  obtain ⟨cf, kf, fi, f, hif, hsl⟩ := hSl k hf.2.1
  have hlay := hts _ (mm_cw ci hf.1 _ (u_in_lay hf.2.1))
  unfold u_lay at hlay
  rw [if_neg (by rw [hfin]; decide)] at hlay
  have hst := (u_facts hfc hkC (u_lays hts (mm_cw ci hf.1) hf.2.1) hif).1
  have h6 := u_store hfc hkC hkind hlay hif (mm_cty ci hf.1 k hf.2.1) hn hfit
  refine W.putK C.1 C.2.1 (f := f) ⟨C.2.2.2.1, hts _ hf.2.2, ⟨_, _, _, hif⟩, hst⟩ (by rw [q2]; exact h6) q1 q3 (by rw [hsl]; exact k2_hasslot (q4 k hf.2.1)) rfl rfl hd fun H' e1 e2 e3 => ?_
  rw [hsl] at e1 ⊢
  have hP1 := hR.1.set mm_w_D hat (e := .inr (ci, ((List.range (mm_cn ci)).map (fun k => mm_fv S I a ci k)).set k (.int x))) ⟨_, hcl, t_OB.to (V := updV (vp_V ((List.range (mm_cn ci)).map (fun k => mm_fv S I a ci k))) k (.int x)) ⟨_, e1, q2, q3, t_set q4 hap hf.2.1 (.int x)⟩ (fun j _ => vp_updV_set (by simpa using hf.2.1) (.int x) j)⟩ e3
  rw [mm_fs_set hi, mm_w_set (S' := S) (I' := mm_wr I a k x) hlt.1 hlt.2 rfl (mm_e_obj ha hf.1) (fun b hb => mm_e_I (mm_wr_row hb))] at hP1
  exact kk l D cA z p e R s m args below meth c Qf hX C H' _ ls (hR.wrI (by have := hf.1; omega) hP1 e2) (hS.put e2 e3 hlt.1) hL
theorem mm_putI {idx ci k a : Nat} {x : Int32} (hd : decode M.2.2.1 pc = .ok (.putfield idx, 3)) (hf : mm_F M.1 idx ci k) (hi : mm_cy ci k = .int) (hfin : (mm_cT ci k).2.2.2 = false) (ha : (S.2.1 a).1 = ci) (kk : mm_G X M mc ms (pc + 3) lv st S (mm_wr I a k x) cl sl) : mm_G X M mc ms pc lv (.int x :: .ref a :: st) S I cl sl :=
  mm_put0 hd hf (by unfold mm_int; rw [hi]) hfin (by rw [hi]; rfl) (by rw [hi]; rfl) ha kk
theorem mm_putZ {idx ci k a : Nat} {x : Int32} (hd : decode M.2.2.1 pc = .ok (.putfield idx, 3)) (hf : mm_F M.1 idx ci k) (hi : mm_cy ci k = .boolean) (hfin : (mm_cT ci k).2.2.2 = false) (hx : x = 0 ∨ x = 1) (ha : (S.2.1 a).1 = ci) (kk : mm_G X M mc ms (pc + 3) lv st S (mm_wr I a k x) cl sl) : mm_G X M mc ms pc lv (.int x :: .ref a :: st) S I cl sl :=
  mm_put0 hd hf (by unfold mm_int; rw [hi]) hfin (by rw [hi]; rcases hx with rfl | rfl <;> rfl) (by rw [hi]; rcases hx with rfl | rfl <;> rfl) ha kk
theorem mm_fs_setR {a ci k : Nat} {x : Option Nat} (hi : mm_int ci k = false) : ((List.range (mm_cn ci)).map (fun k => mm_fv S I a ci k)).set k (va_rf x) = (List.range (mm_cn ci)).map (fun j => mm_fv (S.1, S.2.1, mm_wp S.2.2 a k x) I a ci j) := by
  apply List.ext_getElem?
  intro j
  by_cases hj : j < mm_cn ci
  · by_cases hk : j = k
    · subst hk
      rw [List.getElem?_set_self (by simpa using hj), List.getElem?_map, List.getElem?_range hj]
      simp [mm_fv, hi, mm_wp]
    · rw [List.getElem?_set_ne (Ne.symm hk), List.getElem?_map, List.getElem?_map, List.getElem?_range hj]
      simp [mm_fv, mm_wp, hk]
  · rw [List.getElem?_eq_none (by simp; omega), List.getElem?_eq_none (by simp; omega)]
theorem mm_e_P {cA : Nat → ClassId} {a k b : Nat} {x : Option Nat} (hb : b ≠ a) : mm_e cA (S.1, S.2.1, mm_wp S.2.2 a k x) I b = mm_e cA S I b := by
  have h : mm_wp S.2.2 a k x b = S.2.2 b := by funext j; simp [mm_wp, hb]
  unfold mm_e mm_fv
  simp only [h]
/-- a final reference field, in its constructor -/
theorem mm_putR {idx ci k a b : Nat} {ty : FieldType} (hd : decode M.2.2.1 pc = .ok (.putfield idx, 3)) (hf : mm_F M.1 idx ci k) (hy : mm_cy ci k = ty) (hty : (∃ n, ty = .object n) ∨ ∃ t, ty = .array t) (hfin : (mm_cT ci k).2.2.2 = true) (hin : M.2.1.name = "<init>") (hdecl : (mm_cT ci k).1 = M.1) (ha : (S.2.1 a).1 = ci) (kk : mm_G X M mc ms (pc + 3) lv st (S.1, S.2.1, mm_wp S.2.2 a k (some b)) I cl sl) : mm_G X M mc ms pc lv (.ref b :: .ref a :: st) S I cl sl := by
  intro l D cA z p e R s m args below meth c Qf hX C H locs ls hR hS hL
  have hi : mm_int ci k = false := by unfold mm_int; rw [hy]; rcases hty with ⟨n, rfl⟩ | ⟨t, rfl⟩ <;> rfl
  have hn : narrow (mm_cy ci k) (.ref b) = .ref b := by rw [hy]; rcases hty with ⟨n, rfl⟩ | ⟨t, rfl⟩ <;> rfl
  have hfit : fits (mm_cy ci k) (.ref b) = true := by rw [hy]; rcases hty with ⟨n, rfl⟩ | ⟨t, rfl⟩ <;> rfl
  have hlt := hR.lt (a := a) (by have := hf.1; omega)
  have hat := mm_fv_at hR hf.1 ha
  have hK := C.2.2.2.2.2.2.2.1.1
  have hts := C.2.2.2.2.1
  have hcl := mm_ccl ci hf.1
  have hap := va_apart (own := M.1) hts (mm_cw ci hf.1) (mm_cy ci) (mm_cty ci hf.1) (mm_cnm ci hf.1) hK hcl
  obtain ⟨r, h1, cell, q1, q2, q3, q4⟩ := hR.1 _ _ hat
  have hr : r = (mm_cR ci, mm_cT ci, mm_cn ci) := Option.some.inj (h1.symm.trans hcl)
  subst hr
  obtain ⟨hSl, hfc, kC, hkC, hkind⟩ := hK.1 ci _ hcl
  obtain ⟨cf, kf, fi, f, hif, hsl⟩ := hSl k hf.2.1
  have hlay := hts _ (mm_cw ci hf.1 _ (u_in_lay hf.2.1))
  unfold u_lay at hlay
  rw [if_pos hfin] at hlay
  have hst := (u_facts hfc hkC (u_lays hts (mm_cw ci hf.1) hf.2.1) hif).1
  have hcf : m.cls = cf := by
    obtain ⟨_, _, c', _, _, _, -, -, hf', -, -, -, hown2, -⟩ := Cond.laysFinal_spec hlay
    have e1 : c' = cf := by have := hif.symm.trans hf'; simp at this; exact this.1.symm
    rw [hdecl] at hown2
    rw [← e1]; exact Option.some.inj (C.2.2.2.1.symm.trans hown2)
  have h6 := u_fits hfc hkC hkind (Or.inr hlay) hif (mm_cty ci hf.1 k hf.2.1) hn hfit
  refine W.putFinK C.1 C.2.1 C.2.2.2.1 (hts _ hf.2.2) hif hst hcf (C.2.2.2.2.2.2.2.2.1.trans hin) (by rw [q2]; exact h6) q1 q3 (by rw [hsl]; exact k2_hasslot (q4 k hf.2.1)) rfl rfl hd fun H' e1 e2 e3 => ?_
  rw [hsl] at e1 ⊢
  have hP1 := hR.1.set mm_w_D hat (e := .inr (ci, ((List.range (mm_cn ci)).map (fun k => mm_fv S I a ci k)).set k (.ref b))) ⟨_, hcl, t_OB.to (V := updV (vp_V ((List.range (mm_cn ci)).map (fun k => mm_fv S I a ci k))) k (.ref b)) ⟨_, e1, q2, q3, t_set q4 hap hf.2.1 (.ref b)⟩ (fun j _ => vp_updV_set (by simpa using hf.2.1) (.ref b) j)⟩ e3
  rw [show Value.ref b = va_rf (some b) from rfl, mm_fs_setR hi, mm_w_set (S' := (S.1, S.2.1, mm_wp S.2.2 a k (some b))) (I' := I) hlt.1 hlt.2 rfl (mm_e_obj ha hf.1) (fun b hb => mm_e_P hb)] at hP1
  refine kk l D cA z p e R s m args below meth c Qf hX C H' _ ls ⟨hP1, by rw [e2, hR.2.1], hR.2.2.1, hR.2.2.2.1, fun q hq j => ⟨(hR.2.2.2.2 q hq j).1, ?_⟩⟩ (hS.put e2 e3 hlt.1) hL
  show mm_wp S.2.2 a k (some b) q j = none
  have : q ≠ a := by have h9 : S.1 ≤ q := hq; omega
  simp only [mm_wp, this, false_and, if_false]
  exact (hR.2.2.2.2 q hq j).2
-- arrays
theorem mm_alen {a t n : Nat} (hd : decode M.2.2.1 pc = .ok (.arraylength, 1)) (ha : S.2.1 a = (t + 9, n)) (ht : t < 3) (v : Int32) (hv : Int32.ofNat n = v) (kk : mm_G X M mc ms (pc + 1) lv (.int v :: st) S I cl sl) : mm_G X M mc ms pc lv (.ref a :: st) S I cl sl := by
  intro l D cA z p e R s m args below meth c Qf hX C H locs ls hR hS hL
  have hat := hR.at (a := a) (by rw [ha]; show t + 9 < 12; omega)
  have hK := C.2.2.2.2.2.2.2.1.1
  subst hv
  rcases (show t = 0 ∨ t = 1 ∨ t = 2 by omega) with rfl | rfl | rfl
  · rw [mm_e_int ha] at hat
    exact va_alen C.1 C.2.1 hK hR.1 (a - z) 0 hat rfl rfl hd (kk l D cA z p e R s m args below meth c Qf hX C H locs ls hR hS hL)
  · rw [mm_e_ref (t := 0) ha] at hat
    exact va_alen C.1 C.2.1 hK hR.1 (a - z) 1 hat rfl rfl hd (kk l D cA z p e R s m args below meth c Qf hX C H locs ls hR hS hL)
  · rw [mm_e_ref (t := 1) ha] at hat
    exact va_alen C.1 C.2.1 hK hR.1 (a - z) 2 hat rfl rfl hd (kk l D cA z p e R s m args below meth c Qf hX C H locs ls hR hS hL)
theorem mm_iald {a n : Nat} {i : Int32} (hd : decode M.2.2.1 pc = .ok (.iaload, 1)) (ha : S.2.1 a = (9, n)) (hi : vp_in i n) (kk : mm_G X M mc ms (pc + 1) lv (.int (I a i.toNatClampNeg) :: st) S I cl sl) : mm_G X M mc ms pc lv (.int i :: .ref a :: st) S I cl sl := by
  intro l D cA z p e R s m args below meth c Qf hX C H locs ls hR hS hL
  have hat := hR.at (a := a) (by rw [ha]; exact Nat.le_of_ble_eq_true rfl)
  rw [mm_e_int ha] at hat
  exact va_iald C.1 C.2.1 C.2.2.2.2.2.2.2.1.1 hR.1 (a - z) 0 hat rfl hi hd (kk l D cA z p e R s m args below meth c Qf hX C H locs ls hR hS hL)
theorem mm_iast {a n : Nat} {i x : Int32} (hd : decode M.2.2.1 pc = .ok (.iastore, 1)) (ha : S.2.1 a = (9, n)) (hi : vp_in i n) (kk : mm_G X M mc ms (pc + 1) lv st S (mm_wr I a i.toNatClampNeg x) cl sl) : mm_G X M mc ms pc lv (.int x :: .int i :: .ref a :: st) S I cl sl := by
  intro l D cA z p e R s m args below meth c Qf hX C H locs ls hR hS hL
  have hlt := hR.lt (a := a) (by rw [ha]; exact Nat.le_of_ble_eq_true rfl)
  have hat := hR.at (a := a) (by rw [ha]; exact Nat.le_of_ble_eq_true rfl)
  rw [mm_e_int ha] at hat
  have hK := C.2.2.2.2.2.2.2.1.1
  refine W.iast C.1 C.2.1 (hR.1 _ _ hat) ((hK.2 0 _ rfl).1 n (fun j => .int (I a j))) (fun q => by cases q) (by show ¬ (i < 0 ∨ (arrV _ _ _).slots.size ≤ _); rw [arrV_size]; exact hi) rfl rfl hd fun H1 e9 z1 oq => ?_
  have hP1 := hR.1.set mm_w_D hat (e := .inl (cA 0, n, .inl (upd (I a) i.toNatClampNeg x))) (by
    show H1[a]? = some (vp_cell _ _)
    rw [e9]
    rw [vp_cell_i, vp_cell_i, arrV_store]
    congr 2
    funext q
    by_cases hq : q = i.toNatClampNeg
    · subst hq
      simp [updV, upd]
    · simp [updV, upd, hq]) oq
  rw [mm_w_set (S' := S) (I' := mm_wr I a i.toNatClampNeg x) hlt.1 hlt.2 rfl (by rw [mm_e_int ha, mm_wr_upd]) (fun b hb => mm_e_I (mm_wr_row hb))] at hP1
  exact kk l D cA z p e R s m args below meth c Qf hX C H1 _ ls (hR.wrI (by rw [ha]; exact Nat.le_of_ble_eq_true rfl) hP1 z1) (hS.put z1 oq hlt.1) hL
theorem mm_aald {a n t : Nat} {i : Int32} (r : Option Nat) (hd : decode M.2.2.1 pc = .ok (.aaload, 1)) (ha : S.2.1 a = (t + 10, n)) (ht : t < 2) (hi : vp_in i n) (hr : S.2.2 a i.toNatClampNeg = r) (kk : mm_G X M mc ms (pc + 1) lv (va_rf r :: st) S I cl sl) : mm_G X M mc ms pc lv (.int i :: .ref a :: st) S I cl sl := by
  intro l D cA z p e R s m args below meth c Qf hX C H locs ls hR hS hL
  subst hr
  have hat := hR.at (a := a) (by rw [ha]; show t + 10 < 12; omega)
  have hK := C.2.2.2.2.2.2.2.1.1
  rw [mm_e_ref ha] at hat
  rcases (show t = 0 ∨ t = 1 by omega) with rfl | rfl
  · exact va_aldq C.1 C.2.1 hK hR.1 (a - z) 1 hat rfl hi hd (kk l D cA z p e R s m args below meth c Qf hX C H locs ls hR hS hL)
  · exact va_aldq C.1 C.2.1 hK hR.1 (a - z) 2 hat rfl hi hd (kk l D cA z p e R s m args below meth c Qf hX C H locs ls hR hS hL)
-- returns
theorem mm_iret {Q : Option Value → mm_S → mm_I → Prop} {v : Int32} (hd : decode M.2.2.1 pc = .ok (.ireturn, 1)) (hr : M.2.2.2.2.1 = some .int) (hq : Q (some (.int v)) S I) : mm_G (mm_XM mc ms Q) M mc ms pc lv [.int v] S I mc ms := by
  intro l D cA z p e R s m args below meth c Qf hX C H locs ls hR hS hL
  have hlocks := C.2.2.2.2.2.2.1
  rw [hX]
  exact W.iret C.1 C.2.1 (C.2.2.2.2.2.1.trans hr) (fun t ht hW => ⟨⟨_, S, I, rfl, hq, by rw [ht]; exact hR⟩, hS.F ht⟩) hS.2.2 hd hlocks
theorem mm_zret {Q : Option Value → mm_S → mm_I → Prop} {v : Int32} (hd : decode M.2.2.1 pc = .ok (.ireturn, 1)) (hr : M.2.2.2.2.1 = some .boolean) (hv : v = 0 ∨ v = 1) (hq : Q (some (.int v)) S I) : mm_G (mm_XM mc ms Q) M mc ms pc lv [.int v] S I mc ms := by
  intro l D cA z p e R s m args below meth c Qf hX C H locs ls hR hS hL
  have hlocks := C.2.2.2.2.2.2.1
  rw [hX]
  exact W.zret C.1 C.2.1 (C.2.2.2.2.2.1.trans hr) (by rcases hv with rfl | rfl <;> rfl) (fun t ht hW => ⟨⟨_, S, I, rfl, hq, by rw [ht]; exact hR⟩, hS.F ht⟩) hS.2.2 hd hlocks
theorem mm_vret {Q : Option Value → mm_S → mm_I → Prop} (hd : decode M.2.2.1 pc = .ok (.return_, 1)) (hr : M.2.2.2.2.1 = none) (hq : Q none S I) : mm_G (mm_XM mc ms Q) M mc ms pc lv [] S I mc ms := by
  intro l D cA z p e R s m args below meth c Qf hX C H locs ls hR hS hL
  have hlocks := C.2.2.2.2.2.2.1
  rw [hX]
  exact W.vret C.1 C.2.1 (C.2.2.2.2.2.1.trans hr) (fun t ht hW => ⟨⟨_, S, I, rfl, hq, by rw [ht]; exact hR⟩, hS.F ht⟩) hS.2.2 hd hlocks
theorem mm_aret {Q : Option Value → mm_S → mm_I → Prop} {n : String} {r : Option Nat} {v : Value} (hd : decode M.2.2.1 pc = .ok (.areturn, 1)) (hr : M.2.2.2.2.1 = some (.object n)) (hv : v = va_rf r) (hq : Q (some v) S I) : mm_G (mm_XM mc ms Q) M mc ms pc lv [v] S I mc ms := by
  intro l D cA z p e R s m args below meth c Qf hX C H locs ls hR hS hL
  have hlocks := C.2.2.2.2.2.2.1
  rw [hX]
  exact W.aret C.1 C.2.1 (C.2.2.2.2.2.1.trans hr) (Or.inl ⟨n, rfl⟩) (by rw [hv]; cases r; exact Or.inl rfl; exact Or.inr ⟨_, rfl⟩) (fun t ht hW => ⟨⟨_, S, I, rfl, hq, by rw [ht]; exact hR⟩, hS.F ht⟩) hS.2.2 hd hlocks
-- calls
theorem mm_go {l : Launch} {D : va_G} {cA : Nat → ClassId} {z : Nat} {p : Program} {e : Env} {R : Room} {s : State} {m : MethodId} {args : Array Value} {below : List Frame} {meth : Method} {c : Code} {Qf : State → Prop} {H : Heap} {locs : List Loc} {ls : Array Slot} {st0 rest : List Value} {mc' ms' : Nat} {Qc : Option Value → mm_S → mm_I → Prop} {a : Array Value}
    (hr : va_Run p l e R s m args below meth c H locs cl sl mc' ms' (F0 m pc ls st0) rest (mm_Q D cA z Qc a) (fun q => z ≤ q)) (hS : va_S (fun q => z ≤ q) s.heap H locs)
    (kk : ∀ (v : Option Value) (S' : mm_S) (I' : mm_I) (H1 : Heap) (locs1 : List Loc), Qc v S' I' → mm_R D cA z S' I' H1 → va_S (fun q => z ≤ q) s.heap H1 locs1 → W p l e R s m args below meth c H1 locs1 (cl + mc') (sl + ms') Qf (F0 m (pc + 3) ls (v.toList ++ rest))) : W p l e R s m args below meth c H locs cl sl Qf (F0 m pc ls st0) := by
  intro T hT Y
  obtain ⟨v, st₀, t, T', L, h0, Y', hL, e1, e2, ⟨⟨v', S', I', hv, hq, hR⟩, hz, hk⟩, st⟩ := hr T hT Y
  cases hv
  rw [h0] at hz hk
  obtain ⟨t2, a1, b1⟩ := kk v S' I' T'.heap (locs ++ L) hq (by rw [e1]; exact hR)
    ⟨Nat.le_trans hS.1 (by rw [e1]; exact hz), fun q h1 h2 => by rw [e1, hk q (Nat.lt_of_lt_of_le h1 hS.1) h2]; exact hS.2.1 q h1 h2, fun q hq => by
      rcases List.mem_append.mp hq with h | h
      · exact hS.2.2 q h
      · exact hL q h⟩ T' rfl Y'
  exact ⟨t2, st t2 a1, b1⟩
def mm_LV (own : String) (idx : Nat) (y : MethodName) : Prop := Cond.methodLink own idx y ∈ mw_all ∧ Cond.instanceMethod y ∈ mw_all ∧ Cond.selects y.cls y y ∈ mw_all
def mm_LS (own : String) (idx : Nat) (y : MethodName) : Prop := Cond.methodLink own idx y ∈ mw_all ∧ Cond.static y ∈ mw_all
def mm_LSN (own : String) (idx : Nat) (y : MethodName) : Prop := Cond.methodLinkNest own idx y "WineFutures" ∈ mw_nest ∧ Cond.static y ∈ mw_all
def mm_LI (own : String) (idx : Nat) (y : MethodName) : Prop := Cond.methodLink own idx y ∈ mw_all ∧ Cond.instanceMethod y ∈ mw_all ∧ y.name = "<init>"
def mm_LIN (own : String) (idx : Nat) (y : MethodName) : Prop := Cond.methodLinkNest own idx y "WineFutures" ∈ mw_nest ∧ Cond.instanceMethod y ∈ mw_all ∧ y.name = "<init>"
theorem mm_PreS {D : va_G} {cA : Nat → ClassId} {z : Nat} {s : State} {H : Heap} {as : List Value} (hR : mm_R D cA z S I H) (hK : mm_K D cA s) : PreS s H (mm_P D cA z as S I) as :=
  ⟨fun a U g mk q => ⟨q.1, q.2.1, mm_K.calling q.2.2⟩, fun U hU hW => ⟨rfl, by rw [hU]; exact hR, mm_K.moved hW hK⟩⟩
theorem mm_PreV {D : va_G} {cA : Nat → ClassId} {z ci a : Nat} {s : State} {H : Heap} {as : List Value} (hR : mm_R D cA z S I H) (hK : mm_K D cA s) (hc : ci < 9) (ha : (S.2.1 a).1 = ci) : PreV s H (mm_cR ci) a (mm_P D cA z (.ref a :: as) S I) as :=
  ⟨fun a U g mk q => ⟨q.1, q.2.1, mm_K.calling q.2.2⟩, va_recv hK.1 hR.1 (mm_ccl ci hc) (mm_fv_at hR hc ha), fun U hU hW => ⟨rfl, by rw [hU]; exact hR, mm_K.moved hW hK⟩⟩
theorem mm_room {N : mm_M} {R : Room} (h1 : N.2.2.2.2.2 + 1 ≤ M.2.2.2.2.2) (h2 : N.2.2.2.1 ≤ 11) (h3 : M.2.2.2.2.2 ≤ R.frames) (h4 : 30 * M.2.2.2.2.2 ≤ R.locals) : (mm_rm N mc ms).frames + 1 ≤ R.frames ∧ 8 + (N.2.2.2.1 + 11) + (mm_rm N mc ms).locals ≤ R.locals := by
  show N.2.2.2.2.2 + 1 ≤ R.frames ∧ 8 + (N.2.2.2.1 + 11) + 30 * N.2.2.2.2.2 ≤ R.locals
  omega
theorem mm_Vm {N : mm_M} {n idx ci a mc' ms' : Nat} {as rest st0 : List Value} {Qc : Option Value → mm_S → mm_I → Prop} (hd : decode M.2.2.1 pc = .ok (.invokevirtual idx, 3)) (hl : mm_LV M.1 idx N.2.1) (hN : mm_ok N n) (hlev : N.2.2.2.2.2 + 1 ≤ M.2.2.2.2.2) (hn : as.length = n) (hc : ci < 9) (hcy : mm_cR ci = N.2.1.cls) (ha : (S.2.1 a).1 = ci) (hst : st0 = as.reverse ++ .ref a :: rest) (hw : (rest.map fun v => v.category).sum ≤ 8) (hct : mm_Ct N mc' ms' (.ref a :: as) S I Qc) (hcl : cl + mc' ≤ mc) (hsl : sl + ms' ≤ ms)
    (kk : ∀ v S' I', Qc v S' I' → mm_G X M mc ms (pc + 3) lv (v.toList ++ rest) S' I' (cl + mc') (sl + ms')) : mm_G X M mc ms pc lv st0 S I cl sl := by
  intro l D cA z p e R s m args below meth c Qf hX C H locs ls hR hS hL
  have hC := id C
  obtain ⟨hx, hb, hml, hown, hts, hret, hlocks, hK, hnm, ⟨hr1, hr2, hr3, hr4⟩, hz⟩ := hC
  subst hst
  have hrun := va_runV (e := e) (below := below) (meth := meth) (As := as) (rest := rest) (H := H) (locs := locs) (cells := cl) (slots := sl) (g := F0 m pc ls (as.reverse ++ .ref a :: rest)) (b := a) (C := mm_cR ci) (mc := mc') (ms := ms') ⟨hx, hb, hml, hown, hts⟩ (hct l D cA z)
    ⟨callB_of n hts (mw_goodIn hN.2.2.1) rfl rfl rfl (hts _ hN.2.2.2.2.2) (hts _ hl.1) hN.2.2.2.1 (mm_room hlev hN.2.2.2.2.1 hr1 hr2), hts _ hl.2.1, by rw [hcy]; exact hts _ hl.2.2⟩ (mm_PreV hR hK hc ha) rfl hn hL.has.1 rfl (lv_room hw) hd ⟨Nat.le_trans hcl hr3, Nat.le_trans hsl hr4⟩
  exact mm_go hrun hS (fun v S' I' H1 locs1 hq hR1 hS1 => kk v S' I' hq l D cA z p e R s m args below meth c Qf hX C H1 locs1 ls hR1 hS1 hL)
theorem mm_Sm {N : mm_M} {n idx mc' ms' : Nat} {as rest st0 : List Value} {Qc : Option Value → mm_S → mm_I → Prop} (hd : decode M.2.2.1 pc = .ok (.invokestatic idx, 3)) (hl : mm_LS M.1 idx N.2.1) (hN : mm_ok N n) (hlev : N.2.2.2.2.2 + 1 ≤ M.2.2.2.2.2) (hn : as.length = n) (hst : st0 = as.reverse ++ rest) (hw : (rest.map fun v => v.category).sum ≤ 8) (hct : mm_Ct N mc' ms' as S I Qc) (hcl : cl + mc' ≤ mc) (hsl : sl + ms' ≤ ms)
    (kk : ∀ v S' I', Qc v S' I' → mm_G X M mc ms (pc + 3) lv (v.toList ++ rest) S' I' (cl + mc') (sl + ms')) : mm_G X M mc ms pc lv st0 S I cl sl := by
  intro l D cA z p e R s m args below meth c Qf hX C H locs ls hR hS hL
  have hC := id C
  obtain ⟨hx, hb, hml, hown, hts, hret, hlocks, hK, hnm, ⟨hr1, hr2, hr3, hr4⟩, hz⟩ := hC
  subst hst
  have hrun := va_runS (e := e) (below := below) (meth := meth) (As := as) (rest := rest) (H := H) (locs := locs) (cells := cl) (slots := sl) (g := F0 m pc ls (as.reverse ++ rest)) (mc := mc') (ms := ms') ⟨hx, hb, hml, hown, hts⟩ (hct l D cA z)
    ⟨callB_of n hts (mw_goodIn hN.2.2.1) rfl rfl rfl (hts _ hN.2.2.2.2.2) (hts _ hl.1) hN.2.2.2.1 (mm_room hlev hN.2.2.2.2.1 hr1 hr2), hts _ hl.2⟩ (mm_PreS hR hK) rfl hn hL.has.1 rfl (lv_room hw) hd ⟨Nat.le_trans hcl hr3, Nat.le_trans hsl hr4⟩
  exact mm_go hrun hS (fun v S' I' H1 locs1 hq hR1 hS1 => kk v S' I' hq l D cA z p e R s m args below meth c Qf hX C H1 locs1 ls hR1 hS1 hL)
theorem mm_SNm {N : mm_M} {n idx mc' ms' : Nat} {as rest st0 : List Value} {Qc : Option Value → mm_S → mm_I → Prop} (hd : decode M.2.2.1 pc = .ok (.invokestatic idx, 3)) (hl : mm_LSN M.1 idx N.2.1) (hN : mm_ok N n) (hlev : N.2.2.2.2.2 + 1 ≤ M.2.2.2.2.2) (hn : as.length = n) (hst : st0 = as.reverse ++ rest) (hw : (rest.map fun v => v.category).sum ≤ 8) (hct : mm_Ct N mc' ms' as S I Qc) (hcl : cl + mc' ≤ mc) (hsl : sl + ms' ≤ ms)
    (kk : ∀ v S' I', Qc v S' I' → mm_G X M mc ms (pc + 3) lv (v.toList ++ rest) S' I' (cl + mc') (sl + ms')) : mm_G X M mc ms pc lv st0 S I cl sl := by
  intro l D cA z p e R s m args below meth c Qf hX C H locs ls hR hS hL
  have hC := id C
  obtain ⟨hx, hb, hml, hown, hts, hret, hlocks, hK, hnm, ⟨hr1, hr2, hr3, hr4⟩, hz⟩ := hC
  subst hst
  have hrun := va_runSN (e := e) (below := below) (meth := meth) (As := as) (rest := rest) (H := H) (locs := locs) (cells := cl) (slots := sl) (g := F0 m pc ls (as.reverse ++ rest)) (mc := mc') (ms := ms') ⟨hx, hb, hml, hown, hts⟩ (hct l D cA z)
    ⟨va_cnB n hts (mw_goodIn hN.2.2.1) rfl rfl rfl (hK.2.1 _ hl.1) (hts _ hN.2.2.2.2.2) hN.2.2.2.1 (mm_room hlev hN.2.2.2.2.1 hr1 hr2), hts _ hl.2, trivial⟩ (mm_PreS hR hK) rfl hn hL.has.1 rfl (lv_room hw) hd ⟨Nat.le_trans hcl hr3, Nat.le_trans hsl hr4⟩
  exact mm_go hrun hS (fun v S' I' H1 locs1 hq hR1 hS1 => kk v S' I' hq l D cA z p e R s m args below meth c Qf hX C H1 locs1 ls hR1 hS1 hL)
theorem mm_Im {N : mm_M} {n idx a mc' ms' : Nat} {as rest st0 : List Value} {Qc : Option Value → mm_S → mm_I → Prop} (hd : decode M.2.2.1 pc = .ok (.invokespecial idx, 3)) (hl : mm_LI M.1 idx N.2.1) (hrt : N.2.2.2.2.1 = none) (hN : mm_ok N n) (hlev : N.2.2.2.2.2 + 1 ≤ M.2.2.2.2.2) (hn : as.length = n) (hst : st0 = as.reverse ++ .ref a :: rest) (hw : (rest.map fun v => v.category).sum ≤ 8) (hct : mm_Ct N mc' ms' (.ref a :: as) S I Qc) (hcl : cl + mc' ≤ mc) (hsl : sl + ms' ≤ ms)
    (kk : ∀ v S' I', Qc v S' I' → mm_G X M mc ms (pc + 3) lv (v.toList ++ rest) S' I' (cl + mc') (sl + ms')) : mm_G X M mc ms pc lv st0 S I cl sl := by
  intro l D cA z p e R s m args below meth c Qf hX C H locs ls hR hS hL
  have hC := id C
  obtain ⟨hx, hb, hml, hown, hts, hret, hlocks, hK, hnm, ⟨hr1, hr2, hr3, hr4⟩, hz⟩ := hC
  subst hst
  have hM := hct l D cA z
  have hcode := hN.2.2.1
  rw [hrt] at hM hcode
  have hrun := va_runI (e := e) (below := below) (meth := meth) (As := as) (rest := rest) (H := H) (locs := locs) (cells := cl) (slots := sl) (g := F0 m pc ls (as.reverse ++ .ref a :: rest)) (b := a) (mc := mc') (ms := ms') ⟨hx, hb, hml, hown, hts⟩ hM
    ⟨callB_of n hts (mw_goodIn hcode) rfl rfl rfl (hts _ hN.2.2.2.2.2) (hts _ hl.1) hN.2.2.2.1 (mm_room hlev hN.2.2.2.2.1 hr1 hr2), hl.2.2, hts _ hl.2.1⟩ (mm_PreS hR hK) rfl hn hL.has.1 rfl (lv_room hw) hd ⟨Nat.le_trans hcl hr3, Nat.le_trans hsl hr4⟩
  exact mm_go hrun hS (fun v S' I' H1 locs1 hq hR1 hS1 => kk v S' I' hq l D cA z p e R s m args below meth c Qf hX C H1 locs1 ls hR1 hS1 hL)
theorem mm_INm {N : mm_M} {n idx a mc' ms' : Nat} {as rest st0 : List Value} {Qc : Option Value → mm_S → mm_I → Prop} (hd : decode M.2.2.1 pc = .ok (.invokespecial idx, 3)) (hl : mm_LIN M.1 idx N.2.1) (hrt : N.2.2.2.2.1 = none) (hN : mm_ok N n) (hlev : N.2.2.2.2.2 + 1 ≤ M.2.2.2.2.2) (hn : as.length = n) (hst : st0 = as.reverse ++ .ref a :: rest) (hw : (rest.map fun v => v.category).sum ≤ 8) (hct : mm_Ct N mc' ms' (.ref a :: as) S I Qc) (hcl : cl + mc' ≤ mc) (hsl : sl + ms' ≤ ms)
    (kk : ∀ v S' I', Qc v S' I' → mm_G X M mc ms (pc + 3) lv (v.toList ++ rest) S' I' (cl + mc') (sl + ms')) : mm_G X M mc ms pc lv st0 S I cl sl := by
  intro l D cA z p e R s m args below meth c Qf hX C H locs ls hR hS hL
  have hC := id C
  obtain ⟨hx, hb, hml, hown, hts, hret, hlocks, hK, hnm, ⟨hr1, hr2, hr3, hr4⟩, hz⟩ := hC
  subst hst
  have hM := hct l D cA z
  have hcode := hN.2.2.1
  rw [hrt] at hM hcode
  have hrun := va_runIN (e := e) (below := below) (meth := meth) (As := as) (rest := rest) (H := H) (locs := locs) (cells := cl) (slots := sl) (g := F0 m pc ls (as.reverse ++ .ref a :: rest)) (b := a) (mc := mc') (ms := ms') ⟨hx, hb, hml, hown, hts⟩ hM
    ⟨va_cnB n hts (mw_goodIn hcode) rfl rfl rfl (hK.2.1 _ hl.1) (hts _ hN.2.2.2.2.2) hN.2.2.2.1 (mm_room hlev hN.2.2.2.2.1 hr1 hr2), hl.2.2, hts _ hl.2.1⟩ (mm_PreS hR hK) rfl hn hL.has.1 rfl (lv_room hw) hd ⟨Nat.le_trans hcl hr3, Nat.le_trans hsl hr4⟩
  exact mm_go hrun hS (fun v S' I' H1 locs1 hq hR1 hS1 => kk v S' I' hq l D cA z p e R s m args below meth c Qf hX C H1 locs1 ls hR1 hS1 hL)
end mmRows

