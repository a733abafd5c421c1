/-! THE CLAIM OUT OF ONE WALK OF THE LAW'S BODY. Your part is whole_start (and what it stands on); all else here is the same for every law, but numbers. -/
def R_law : String := "WineFuturesLaw"
def lw_P (b : Addr) (xs : List Int32) (args : Array Value) (s : State) : Prop := args = #[.ref b] ∧ s.IntsAt b xs ∧ xs.length ≤ 3072 ∧ (Jvm.Cond.and given_1 narrow_1).before args s = true
/-- what a walk over the start with the record d0 says of its end, said of the start itself -/
theorem lw_closed {s t : State} {o : Outcome} {d0 : Drawn} {L : List Loc} {k n : Nat} (hd0 : s.drawn.sameBut d0 lw_cs) (hv : ∃ v, o = .returned v) (hW : (s.setDrawn d0).WarmedH t.vm) (hs : (s.setDrawn d0).sameButNew ({ t with vm := s.vm } : State) L k n) : State.butDraws s t lw_cs (fun t1 => Framed s o t1 L k n) := by
  have h2 : t.drawn = d0 := congrArg State.drawn hs.1
  refine ⟨⟨hv, hW, State.sameButNew.setDrawn hs s.drawn⟩, ?_, by decide⟩
  rw [h2]
  exact hd0
def lw_Q (_ : Array Value) (s : State) (o : Outcome) (t : State) : Prop := o = .returned (some (.int 1)) ∧ State.butDraws s t lw_cs (fun t1 => Framed s o t1 [] 600000 7302250)
def lw_Z (below : List Frame) (a : Array Value) (s : State) : State → Prop := fun t => ∃ o, t.status = .running ∧ Ended t below o ∧ lw_Q a s o t
/-- the law's own end, with 1 on the stack, nothing written that was there before, its room as the claim has it; d0: the record of draws at this point (at the entry s.drawn: begin with 'refine W.base ?_' and 'have hd0 := Drawn.sameBut.refl s.drawn lw_cs') -/
theorem lw_ret {R9 : Room} {p : Program} {l : Launch} {e : Env} {s : State} {m : MethodId} {below : List Frame} {meth : Method} {c : Code} {b : Nat} {d0 : Drawn} (hd0 : s.drawn.sameBut d0 lw_cs) (hx : p.tables.exec = Jvm.exec) (hb : c.code = code) (hr : meth.sig.returnType = ret) (hlocks : meth.locks = false) {pc : Nat} {H : Heap} {ls : Array Slot} (hdg : decode code pc = .ok (.ireturn, 1)) : W p l e R9 (s.setDrawn d0) m #[Value.ref b] below meth c H [] 600000 7302250 (lw_Z below #[Value.ref b] s) (F0 m pc ls [.int 1]) := by
  intro T hT X
  obtain ⟨fs, hret, hrun, hended, hW, hframe⟩ := X.leave (v := some (.int 1)) (hlocks := hlocks) (fun h => by rw [hr] at h; cases h)
  have hmeth' : T.vm.method? m = some meth := X.method'
  refine ⟨T.setFrames fs, ?_, .returned (some (.int 1)), hrun, hended, rfl, lw_closed hd0 ⟨_, rfl⟩ hW hframe⟩
  jvm_step X.here [X.here.top, hx, hb, hdg, hmeth', hr, ret, narrow_b1]
  (try refine ⟨rfl, ?_⟩); (try refine ⟨rfl, ?_⟩)
  first | (intro acts; rw [hret _ acts rfl rfl rfl]) | rw [hret _ _ rfl rfl rfl]
  exact Steps.refl _
/-- what holds at the law's entry: the machine, the code, the tables' words (any of lw_tbl by 'hts w (by decide +kernel)'), the script of L ints xs at the cell b, what the Statement gives of the start (any of its parts by flat_of_before) -/
def lw_At (p : Program) (s : State) (m : MethodId) (meth : Method) (c : Code) (b L : Nat) (xs : Nat → Int32) : Prop :=
  p.tables.exec = Jvm.exec ∧ c.code = code ∧ meth.sig.returnType = ret ∧ c.maxLocals = 4 ∧ meth.name = "law" ∧ s.vm.findClass R_law = some m.cls ∧ (∀ w ∈ lw_tbl, w.before #[Value.ref b] s = true) ∧ va_X b L xs s s.heap ∧ b < s.heap.size ∧ meth.locks = false ∧ (Jvm.Cond.and given_1 narrow_1).before #[Value.ref b] s = true

/-! THE LAW'S OWN MACHINE: its script lies ahead of its world -/
def lw_X9 (b L : Nat) (xs : Nat → Int32) : mm_X := fun _ _ z s args below Qf => args = #[.ref b] ∧ va_X b L xs s s.heap ∧ b < s.heap.size ∧ z = s.heap.size ∧ Qf = lw_Z below #[.ref b] s
section
variable {b L : Nat} {xs : Nat → Int32} {M : mm_M} {mc ms pc : Nat} {lv : List (Nat × Value)} {st : List Value} {S : mm_S} {I : mm_I} {cl sl : Nat}
theorem mm_sld {i : Int32} (hd : decode M.2.2.1 pc = .ok (.iaload, 1)) (hi : vp_in i L) (k : mm_G (lw_X9 b L xs) M mc ms (pc + 1) lv (.int (xs i.toNatClampNeg) :: st) S I cl sl) : mm_G (lw_X9 b L xs) M mc ms pc lv (.int i :: .ref b :: st) S I cl sl := by
  intro l D cA z p e R s m args below meth c Qf hX C H locs ls hR hS hL
  obtain ⟨h1, h2, h3, h4, h5⟩ := id hX
  have hbA : ¬ (fun q : Nat => z ≤ q) b := by show ¬ z ≤ b; omega
  exact va_sld C.1 C.2.1 h2 h3 hbA hS hi hd (k l D cA z p e R s m args below meth c Qf hX C H locs ls hR hS hL)
theorem mm_slen (hd : decode M.2.2.1 pc = .ok (.arraylength, 1)) (k : mm_G (lw_X9 b L xs) M mc ms (pc + 1) lv (.int (nI L) :: st) S I cl sl) : mm_G (lw_X9 b L xs) M mc ms pc lv (.ref b :: st) S I cl sl := by
  intro l D cA z p e R s m args below meth c Qf hX C H locs ls hR hS hL
  obtain ⟨h1, h2, h3, h4, h5⟩ := id hX
  have hbA : ¬ (fun q : Nat => z ≤ q) b := by show ¬ z ≤ b; omega
  exact va_slen C.1 C.2.1 h2 h3 hbA hS hd (k l D cA z p e R s m args below meth c Qf hX C H locs ls hR hS hL)
theorem mm_lret (hd : decode code pc = .ok (.ireturn, 1)) (h1 : cl ≤ 600000) (h2 : sl ≤ 7302250) : mm_G (lw_X9 b L xs) mL_law 600000 7302250 pc lv [.int 1] S I cl sl := by
  intro l D cA z p e R s m args below meth c Qf hX C H locs ls hR hS hL
  obtain ⟨q1, q2, q3, q4, q5⟩ := hX
  subst q1
  subst q4
  subst q5
  obtain ⟨hx, hb, hml, hown, hts, hret, hlocks, hK, hnm, hr, hz⟩ := C
  refine va_forget (fun q hq => hS.2.2 q hq) ?_
  refine W.widen (k := 600000) (n := 7302250) h1 h2 ?_
  exact lw_ret (d0 := s.drawn) (Drawn.sameBut.refl s.drawn lw_cs) hx hb hret hlocks hd
end
theorem lw_and31 (x : Int32) : ∃ k, k ≤ 31 ∧ x &&& 31 = nI k := by
  refine ⟨(x.toBitVec &&& 31#32).toNat, ?_, ?_⟩
  · rw [BitVec.toNat_and]
    exact Nat.le_trans Nat.and_le_right (by decide)
  · apply Int32.toBitVec_inj.mp
    rw [Int32.toBitVec_and]
    show x.toBitVec &&& 31#32 = BitVec.ofNat 32 (x.toBitVec &&& 31#32).toNat
    rw [BitVec.ofNat_toNat, BitVec.setWidth_eq]
theorem lw_gt {L j : Nat} (hL : L ≤ 3072) (hj : j ≤ 4000) : nI j ≤ nI L - 6 ↔ j + 6 ≤ L := by
  rw [Int32.le_iff_toInt_le, nI_toInt (by omega), show (6 : Int32) = nI 6 from rfl, pk_sub_toInt (by omega) (by omega)]
  omega
