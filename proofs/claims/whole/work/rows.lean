section
-- ===== PART A: goes FIRST, ahead of the names: the tables' words, and 'selects' of the private methods out of them =====
/-- a private method of a class that the tables say can be made, by its rows of tables_1 -/
def lw_okq (q : MethodName × Nat) : Prop := (q.1.cls ≠ "java/lang/invoke/MethodHandle" ∧ q.1.cls ≠ "java/lang/invoke/VarHandle") ∧ Cond.instantiable q.1.cls q.2 ∈ tables_1 ∧ Cond.privateMethod q.1 ∈ tables_1 ∧ Cond.instanceMethod q.1 ∈ tables_1
theorem lw_p0 : lw_okq (⟨"WineFutures", "settled", "(I)I"⟩, 4) := ⟨⟨by decide +kernel, by decide +kernel⟩, List.mem_of_getElem? (i := 13) (by decide +kernel), List.mem_of_getElem? (i := 278) (by decide +kernel), List.mem_of_getElem? (i := 279) (by decide +kernel)⟩
theorem lw_p1 : lw_okq (⟨"WineFuturesModel", "changes", "()V"⟩, 16) := ⟨⟨by decide +kernel, by decide +kernel⟩, List.mem_of_getElem? (i := 665) (by decide +kernel), List.mem_of_getElem? (i := 729) (by decide +kernel), List.mem_of_getElem? (i := 730) (by decide +kernel)⟩
theorem lw_p2 : lw_okq (⟨"WineFuturesModel", "isLot", "(I)Z"⟩, 16) := ⟨⟨by decide +kernel, by decide +kernel⟩, List.mem_of_getElem? (i := 665) (by decide +kernel), List.mem_of_getElem? (i := 737) (by decide +kernel), List.mem_of_getElem? (i := 738) (by decide +kernel)⟩
theorem lw_p3 : lw_okq (⟨"WineFuturesModel", "loads", "(I)V"⟩, 16) := ⟨⟨by decide +kernel, by decide +kernel⟩, List.mem_of_getElem? (i := 665) (by decide +kernel), List.mem_of_getElem? (i := 741) (by decide +kernel), List.mem_of_getElem? (i := 742) (by decide +kernel)⟩
theorem lw_p4 : lw_okq (⟨"WineFuturesModel", "of", "(II)I"⟩, 16) := ⟨⟨by decide +kernel, by decide +kernel⟩, List.mem_of_getElem? (i := 665) (by decide +kernel), List.mem_of_getElem? (i := 745) (by decide +kernel), List.mem_of_getElem? (i := 746) (by decide +kernel)⟩
theorem lw_p5 : lw_okq (⟨"WineFuturesModel", "isOpen", "(I)Z"⟩, 16) := ⟨⟨by decide +kernel, by decide +kernel⟩, List.mem_of_getElem? (i := 665) (by decide +kernel), List.mem_of_getElem? (i := 749) (by decide +kernel), List.mem_of_getElem? (i := 750) (by decide +kernel)⟩
theorem lw_p6 : lw_okq (⟨"WineFuturesModel", "tasted", "()I"⟩, 16) := ⟨⟨by decide +kernel, by decide +kernel⟩, List.mem_of_getElem? (i := 665) (by decide +kernel), List.mem_of_getElem? (i := 753) (by decide +kernel), List.mem_of_getElem? (i := 754) (by decide +kernel)⟩
theorem lw_p7 : lw_okq (⟨"WineFuturesModel", "leaves", "()V"⟩, 16) := ⟨⟨by decide +kernel, by decide +kernel⟩, List.mem_of_getElem? (i := 665) (by decide +kernel), List.mem_of_getElem? (i := 759) (by decide +kernel), List.mem_of_getElem? (i := 760) (by decide +kernel)⟩
theorem lw_p8 : lw_okq (⟨"WineFuturesModel", "lays", "(I)V"⟩, 16) := ⟨⟨by decide +kernel, by decide +kernel⟩, List.mem_of_getElem? (i := 665) (by decide +kernel), List.mem_of_getElem? (i := 763) (by decide +kernel), List.mem_of_getElem? (i := 764) (by decide +kernel)⟩
theorem lw_p9 : lw_okq (⟨"WineFuturesModel", "quote", "(I)I"⟩, 16) := ⟨⟨by decide +kernel, by decide +kernel⟩, List.mem_of_getElem? (i := 665) (by decide +kernel), List.mem_of_getElem? (i := 767) (by decide +kernel), List.mem_of_getElem? (i := 768) (by decide +kernel)⟩
theorem lw_p10 : lw_okq (⟨"WineFuturesModel", "needy", "()I"⟩, 16) := ⟨⟨by decide +kernel, by decide +kernel⟩, List.mem_of_getElem? (i := 665) (by decide +kernel), List.mem_of_getElem? (i := 775) (by decide +kernel), List.mem_of_getElem? (i := 776) (by decide +kernel)⟩
theorem lw_p11 : lw_okq (⟨"WineFuturesModel", "tops", "()V"⟩, 16) := ⟨⟨by decide +kernel, by decide +kernel⟩, List.mem_of_getElem? (i := 665) (by decide +kernel), List.mem_of_getElem? (i := 779) (by decide +kernel), List.mem_of_getElem? (i := 780) (by decide +kernel)⟩
theorem lw_p12 : lw_okq (⟨"WineFuturesModel", "passes", "()I"⟩, 16) := ⟨⟨by decide +kernel, by decide +kernel⟩, List.mem_of_getElem? (i := 665) (by decide +kernel), List.mem_of_getElem? (i := 787) (by decide +kernel), List.mem_of_getElem? (i := 788) (by decide +kernel)⟩
theorem lw_p13 : lw_okq (⟨"WineFuturesModel", "month", "(I)I"⟩, 16) := ⟨⟨by decide +kernel, by decide +kernel⟩, List.mem_of_getElem? (i := 665) (by decide +kernel), List.mem_of_getElem? (i := 791) (by decide +kernel), List.mem_of_getElem? (i := 792) (by decide +kernel)⟩
theorem lw_p14 : lw_okq (⟨"WineFuturesModel", "all", "()I"⟩, 16) := ⟨⟨by decide +kernel, by decide +kernel⟩, List.mem_of_getElem? (i := 665) (by decide +kernel), List.mem_of_getElem? (i := 799) (by decide +kernel), List.mem_of_getElem? (i := 800) (by decide +kernel)⟩
theorem lw_p15 : lw_okq (⟨"WineFuturesModel", "allHeld", "(I)I"⟩, 16) := ⟨⟨by decide +kernel, by decide +kernel⟩, List.mem_of_getElem? (i := 665) (by decide +kernel), List.mem_of_getElem? (i := 803) (by decide +kernel), List.mem_of_getElem? (i := 804) (by decide +kernel)⟩
def lw_privs_1 : List (MethodName × Nat) := [(⟨"WineFutures", "settled", "(I)I"⟩, 4), (⟨"WineFuturesModel", "changes", "()V"⟩, 16), (⟨"WineFuturesModel", "isLot", "(I)Z"⟩, 16), (⟨"WineFuturesModel", "loads", "(I)V"⟩, 16), (⟨"WineFuturesModel", "of", "(II)I"⟩, 16), (⟨"WineFuturesModel", "isOpen", "(I)Z"⟩, 16), (⟨"WineFuturesModel", "tasted", "()I"⟩, 16), (⟨"WineFuturesModel", "leaves", "()V"⟩, 16), (⟨"WineFuturesModel", "lays", "(I)V"⟩, 16), (⟨"WineFuturesModel", "quote", "(I)I"⟩, 16), (⟨"WineFuturesModel", "needy", "()I"⟩, 16), (⟨"WineFuturesModel", "tops", "()V"⟩, 16), (⟨"WineFuturesModel", "passes", "()I"⟩, 16), (⟨"WineFuturesModel", "month", "(I)I"⟩, 16), (⟨"WineFuturesModel", "all", "()I"⟩, 16), (⟨"WineFuturesModel", "allHeld", "(I)I"⟩, 16)]
theorem lw_r1 : ∀ q ∈ lw_privs_1, lw_okq q := List.forall_mem_cons.mpr ⟨lw_p0, List.forall_mem_cons.mpr ⟨lw_p1, List.forall_mem_cons.mpr ⟨lw_p2, List.forall_mem_cons.mpr ⟨lw_p3, List.forall_mem_cons.mpr ⟨lw_p4, List.forall_mem_cons.mpr ⟨lw_p5, List.forall_mem_cons.mpr ⟨lw_p6, List.forall_mem_cons.mpr ⟨lw_p7, List.forall_mem_cons.mpr ⟨lw_p8, List.forall_mem_cons.mpr ⟨lw_p9, List.forall_mem_cons.mpr ⟨lw_p10, List.forall_mem_cons.mpr ⟨lw_p11, List.forall_mem_cons.mpr ⟨lw_p12, List.forall_mem_cons.mpr ⟨lw_p13, List.forall_mem_cons.mpr ⟨lw_p14, List.forall_mem_cons.mpr ⟨lw_p15, fun _ h => absurd h List.not_mem_nil⟩⟩⟩⟩⟩⟩⟩⟩⟩⟩⟩⟩⟩⟩⟩⟩
theorem lw_p16 : lw_okq (⟨"WineFuturesModel", "holds", "(II)I"⟩, 16) := ⟨⟨by decide +kernel, by decide +kernel⟩, List.mem_of_getElem? (i := 665) (by decide +kernel), List.mem_of_getElem? (i := 807) (by decide +kernel), List.mem_of_getElem? (i := 808) (by decide +kernel)⟩
theorem lw_p17 : lw_okq (⟨"WineFuturesModel", "wouldCut", "(IIII)I"⟩, 16) := ⟨⟨by decide +kernel, by decide +kernel⟩, List.mem_of_getElem? (i := 665) (by decide +kernel), List.mem_of_getElem? (i := 814) (by decide +kernel), List.mem_of_getElem? (i := 815) (by decide +kernel)⟩
theorem lw_p18 : lw_okq (⟨"WineFuturesModel", "goes", "(III)I"⟩, 16) := ⟨⟨by decide +kernel, by decide +kernel⟩, List.mem_of_getElem? (i := 665) (by decide +kernel), List.mem_of_getElem? (i := 818) (by decide +kernel), List.mem_of_getElem? (i := 819) (by decide +kernel)⟩
theorem lw_p19 : lw_okq (⟨"WineFuturesModel", "enters", "(IIIIII)V"⟩, 16) := ⟨⟨by decide +kernel, by decide +kernel⟩, List.mem_of_getElem? (i := 665) (by decide +kernel), List.mem_of_getElem? (i := 822) (by decide +kernel), List.mem_of_getElem? (i := 823) (by decide +kernel)⟩
theorem lw_p20 : lw_okq (⟨"WineFuturesModel", "isBuyer", "(I)Z"⟩, 16) := ⟨⟨by decide +kernel, by decide +kernel⟩, List.mem_of_getElem? (i := 665) (by decide +kernel), List.mem_of_getElem? (i := 834) (by decide +kernel), List.mem_of_getElem? (i := 835) (by decide +kernel)⟩
theorem lw_p21 : lw_okq (⟨"WineFuturesModel", "expected", "(I)I"⟩, 16) := ⟨⟨by decide +kernel, by decide +kernel⟩, List.mem_of_getElem? (i := 665) (by decide +kernel), List.mem_of_getElem? (i := 841) (by decide +kernel), List.mem_of_getElem? (i := 842) (by decide +kernel)⟩
theorem lw_p22 : lw_okq (⟨"WineFuturesModel", "casesIn", "(II)I"⟩, 16) := ⟨⟨by decide +kernel, by decide +kernel⟩, List.mem_of_getElem? (i := 665) (by decide +kernel), List.mem_of_getElem? (i := 845) (by decide +kernel), List.mem_of_getElem? (i := 846) (by decide +kernel)⟩
theorem lw_p23 : lw_okq (⟨"WineFuturesModel", "comes", "(IIIII)V"⟩, 16) := ⟨⟨by decide +kernel, by decide +kernel⟩, List.mem_of_getElem? (i := 665) (by decide +kernel), List.mem_of_getElem? (i := 849) (by decide +kernel), List.mem_of_getElem? (i := 850) (by decide +kernel)⟩
theorem lw_p24 : lw_okq (⟨"WineFuturesModel", "mean", "(II)I"⟩, 16) := ⟨⟨by decide +kernel, by decide +kernel⟩, List.mem_of_getElem? (i := 665) (by decide +kernel), List.mem_of_getElem? (i := 877) (by decide +kernel), List.mem_of_getElem? (i := 878) (by decide +kernel)⟩
theorem lw_p25 : lw_okq (⟨"WineFuturesModel", "accounts", "()I"⟩, 16) := ⟨⟨by decide +kernel, by decide +kernel⟩, List.mem_of_getElem? (i := 665) (by decide +kernel), List.mem_of_getElem? (i := 923) (by decide +kernel), List.mem_of_getElem? (i := 924) (by decide +kernel)⟩
theorem lw_p26 : lw_okq (⟨"WineFuturesModel", "ofLots", "(Z)I"⟩, 16) := ⟨⟨by decide +kernel, by decide +kernel⟩, List.mem_of_getElem? (i := 665) (by decide +kernel), List.mem_of_getElem? (i := 927) (by decide +kernel), List.mem_of_getElem? (i := 928) (by decide +kernel)⟩
theorem lw_p27 : lw_okq (⟨"WineFuturesModel", "plays", "()Z"⟩, 16) := ⟨⟨by decide +kernel, by decide +kernel⟩, List.mem_of_getElem? (i := 665) (by decide +kernel), List.mem_of_getElem? (i := 950) (by decide +kernel), List.mem_of_getElem? (i := 951) (by decide +kernel)⟩
theorem lw_p28 : lw_okq (⟨"WineFuturesModel", "reads", "()Z"⟩, 16) := ⟨⟨by decide +kernel, by decide +kernel⟩, List.mem_of_getElem? (i := 665) (by decide +kernel), List.mem_of_getElem? (i := 954) (by decide +kernel), List.mem_of_getElem? (i := 955) (by decide +kernel)⟩
theorem lw_p29 : lw_okq (⟨"WineFuturesModel", "isAt", "(II)Z"⟩, 16) := ⟨⟨by decide +kernel, by decide +kernel⟩, List.mem_of_getElem? (i := 665) (by decide +kernel), List.mem_of_getElem? (i := 958) (by decide +kernel), List.mem_of_getElem? (i := 959) (by decide +kernel)⟩
theorem lw_p30 : lw_okq (⟨"WineFuturesModel", "number", "(I)Z"⟩, 16) := ⟨⟨by decide +kernel, by decide +kernel⟩, List.mem_of_getElem? (i := 665) (by decide +kernel), List.mem_of_getElem? (i := 965) (by decide +kernel), List.mem_of_getElem? (i := 966) (by decide +kernel)⟩
theorem lw_p31 : lw_okq (⟨"WineFuturesModel", "sign", "(I)Z"⟩, 16) := ⟨⟨by decide +kernel, by decide +kernel⟩, List.mem_of_getElem? (i := 665) (by decide +kernel), List.mem_of_getElem? (i := 969) (by decide +kernel), List.mem_of_getElem? (i := 970) (by decide +kernel)⟩
def lw_privs_2 : List (MethodName × Nat) := [(⟨"WineFuturesModel", "holds", "(II)I"⟩, 16), (⟨"WineFuturesModel", "wouldCut", "(IIII)I"⟩, 16), (⟨"WineFuturesModel", "goes", "(III)I"⟩, 16), (⟨"WineFuturesModel", "enters", "(IIIIII)V"⟩, 16), (⟨"WineFuturesModel", "isBuyer", "(I)Z"⟩, 16), (⟨"WineFuturesModel", "expected", "(I)I"⟩, 16), (⟨"WineFuturesModel", "casesIn", "(II)I"⟩, 16), (⟨"WineFuturesModel", "comes", "(IIIII)V"⟩, 16), (⟨"WineFuturesModel", "mean", "(II)I"⟩, 16), (⟨"WineFuturesModel", "accounts", "()I"⟩, 16), (⟨"WineFuturesModel", "ofLots", "(Z)I"⟩, 16), (⟨"WineFuturesModel", "plays", "()Z"⟩, 16), (⟨"WineFuturesModel", "reads", "()Z"⟩, 16), (⟨"WineFuturesModel", "isAt", "(II)Z"⟩, 16), (⟨"WineFuturesModel", "number", "(I)Z"⟩, 16), (⟨"WineFuturesModel", "sign", "(I)Z"⟩, 16)]
theorem lw_r2 : ∀ q ∈ lw_privs_2, lw_okq q := List.forall_mem_cons.mpr ⟨lw_p16, List.forall_mem_cons.mpr ⟨lw_p17, List.forall_mem_cons.mpr ⟨lw_p18, List.forall_mem_cons.mpr ⟨lw_p19, List.forall_mem_cons.mpr ⟨lw_p20, List.forall_mem_cons.mpr ⟨lw_p21, List.forall_mem_cons.mpr ⟨lw_p22, List.forall_mem_cons.mpr ⟨lw_p23, List.forall_mem_cons.mpr ⟨lw_p24, List.forall_mem_cons.mpr ⟨lw_p25, List.forall_mem_cons.mpr ⟨lw_p26, List.forall_mem_cons.mpr ⟨lw_p27, List.forall_mem_cons.mpr ⟨lw_p28, List.forall_mem_cons.mpr ⟨lw_p29, List.forall_mem_cons.mpr ⟨lw_p30, List.forall_mem_cons.mpr ⟨lw_p31, fun _ h => absurd h List.not_mem_nil⟩⟩⟩⟩⟩⟩⟩⟩⟩⟩⟩⟩⟩⟩⟩⟩
theorem lw_p32 : lw_okq (⟨"WineFuturesModel", "calls", "()I"⟩, 16) := ⟨⟨by decide +kernel, by decide +kernel⟩, List.mem_of_getElem? (i := 665) (by decide +kernel), List.mem_of_getElem? (i := 973) (by decide +kernel), List.mem_of_getElem? (i := 974) (by decide +kernel)⟩
def lw_privs_3 : List (MethodName × Nat) := [(⟨"WineFuturesModel", "calls", "()I"⟩, 16)]
theorem lw_r3 : ∀ q ∈ lw_privs_3, lw_okq q := List.forall_mem_cons.mpr ⟨lw_p32, fun _ h => absurd h List.not_mem_nil⟩
def lw_privs : List (MethodName × Nat) := lw_privs_1 ++ (lw_privs_2 ++ (lw_privs_3))
def lw_tbl : List Cond := k2_sels lw_privs ++ tables_1
theorem lw_privs_ok : ∀ q ∈ lw_privs, lw_okq q := by
  show ∀ q ∈ lw_privs_1 ++ (lw_privs_2 ++ (lw_privs_3)), lw_okq q
  exact List.forall_mem_append.mpr ⟨lw_r1, List.forall_mem_append.mpr ⟨lw_r2, lw_r3⟩⟩
/-- the streams that the claim lets the run draw from -/
abbrev lw_cs : List Choice := [Jvm.Choice.named "NaN.bits"]
theorem lw_bits : nanBits ∈ lw_cs := by first | decide | exact List.mem_cons_self | simp [lw_cs, nanBits]
def RX0 : String := "WineFutures$Barrels"
def TX0 : u_T := fun k => match k with
  | 0 => ("WineFutures$Barrels", "wine", "[I", true)
  | 1 => ("WineFutures$Barrels", "number", "I", false)
  | _ => ("WineFutures$Barrels", "rate", "I", false)
def tyX0 : Nat → FieldType := fun k => match k with
  | 0 => .array .int
  | 1 => .int
  | _ => .int
abbrev wsX00 : List Cond := u_ws RX0 TX0 3
theorem nmX0 : ∀ a, a < 3 → ∀ b, b < 3 → a ≠ b → (TX0 a).2.1 ≠ (TX0 b).2.1 := by decide +kernel
theorem tyX0_ok : ∀ k, k < 3 → parseFieldDescriptor (TX0 k).2.2.1 = some (tyX0 k) := by decide +kernel
abbrev cX0_init : ByteArray := prog_2_method_1_code
def yX0_init : MethodName := ⟨RX0, "<init>", "()V"⟩
abbrev cX0_fill : ByteArray := prog_2_method_2_code
def yX0_fill : MethodName := ⟨RX0, "fill", "(II)V"⟩
abbrev cX0_copyBarrels : ByteArray := prog_2_method_3_code
def yX0_copyBarrels : MethodName := ⟨RX0, "copyBarrels", "(LWineFutures$Barrels;)V"⟩
abbrev cX0_casesBehind : ByteArray := prog_2_method_4_code
def yX0_casesBehind : MethodName := ⟨RX0, "casesBehind", "(I)I"⟩
abbrev cX0_lose : ByteArray := prog_2_method_5_code
def yX0_lose : MethodName := ⟨RX0, "lose", "(I)I"⟩
abbrev cX0_wineBehind : ByteArray := prog_2_method_6_code
def yX0_wineBehind : MethodName := ⟨RX0, "wineBehind", "(II)I"⟩
abbrev cX0_barrelForTasting : ByteArray := prog_2_method_7_code
def yX0_barrelForTasting : MethodName := ⟨RX0, "barrelForTasting", "()I"⟩
abbrev cX0_takeSip : ByteArray := prog_2_method_8_code
def yX0_takeSip : MethodName := ⟨RX0, "takeSip", "(I)V"⟩
abbrev cX0_leaveOut : ByteArray := prog_2_method_9_code
def yX0_leaveOut : MethodName := ⟨RX0, "leaveOut", "(I)V"⟩
abbrev cX0_canBeToppedUp : ByteArray := prog_2_method_10_code
def yX0_canBeToppedUp : MethodName := ⟨RX0, "canBeToppedUp", "()Z"⟩
abbrev cX0_topUp : ByteArray := prog_2_method_11_code
def yX0_topUp : MethodName := ⟨RX0, "topUp", "()V"⟩
def RX1 : String := "WineFutures$Book"
def TX1 : u_T := fun k => match k with
  | 0 => ("WineFutures$Book", "cells", "[I", true)
  | _ => ("WineFutures$Book", "entries", "I", false)
def tyX1 : Nat → FieldType := fun k => match k with
  | 0 => .array .int
  | _ => .int
abbrev wsX10 : List Cond := u_ws RX1 TX1 2
theorem nmX1 : ∀ a, a < 2 → ∀ b, b < 2 → a ≠ b → (TX1 a).2.1 ≠ (TX1 b).2.1 := by decide +kernel
theorem tyX1_ok : ∀ k, k < 2 → parseFieldDescriptor (TX1 k).2.2.1 = some (tyX1 k) := by decide +kernel
abbrev cX1_init : ByteArray := prog_3_method_1_code
def yX1_init : MethodName := ⟨RX1, "<init>", "()V"⟩
abbrev cX1_copyBook : ByteArray := prog_3_method_2_code
def yX1_copyBook : MethodName := ⟨RX1, "copyBook", "(LWineFutures$Book;)V"⟩
abbrev cX1_write : ByteArray := prog_3_method_3_code
def yX1_write : MethodName := ⟨RX1, "write", "(IIIIII)V"⟩
abbrev cX1_cell : ByteArray := prog_3_method_4_code
def yX1_cell : MethodName := ⟨RX1, "cell", "(II)I"⟩
def RX2 : String := "WineFutures$Estate"
def TX2 : u_T := fun k => match k with
  | 0 => ("WineFutures$Estate", "lots", "[LWineFutures$Lot;", true)
  | 1 => ("WineFutures$Estate", "accounts", "[I", true)
  | 2 => ("WineFutures$Estate", "book", "LWineFutures$Book;", true)
  | 3 => ("WineFutures$Estate", "forecast", "LWineFutures$Barrels;", true)
  | 4 => ("WineFutures$Estate", "lotCount", "I", false)
  | 5 => ("WineFutures$Estate", "buyerCount", "I", false)
  | 6 => ("WineFutures$Estate", "ownAccount", "I", false)
  | 7 => ("WineFutures$Estate", "margin", "I", false)
  | 8 => ("WineFutures$Estate", "horizon", "I", false)
  | 9 => ("WineFutures$Estate", "month", "I", false)
  | 10 => ("WineFutures$Estate", "lost", "I", false)
  | _ => ("WineFutures$Estate", "cut", "I", false)
def tyX2 : Nat → FieldType := fun k => match k with
  | 0 => .array (.object "WineFutures$Lot")
  | 1 => .array .int
  | 2 => .object "WineFutures$Book"
  | 3 => .object "WineFutures$Barrels"
  | 4 => .int
  | 5 => .int
  | 6 => .int
  | 7 => .int
  | 8 => .int
  | 9 => .int
  | 10 => .int
  | _ => .int
abbrev wsX20 : List Cond := u_ws RX2 TX2 12
theorem nmX2 : ∀ a, a < 12 → ∀ b, b < 12 → a ≠ b → (TX2 a).2.1 ≠ (TX2 b).2.1 := by decide +kernel
theorem tyX2_ok : ∀ k, k < 12 → parseFieldDescriptor (TX2 k).2.2.1 = some (tyX2 k) := by decide +kernel
abbrev cX2_init : ByteArray := prog_4_method_1_code
def yX2_init : MethodName := ⟨RX2, "<init>", "()V"⟩
abbrev cX2_copyEstate : ByteArray := prog_4_method_2_code
def yX2_copyEstate : MethodName := ⟨RX2, "copyEstate", "(LWineFutures$Estate;)V"⟩
abbrev cX2_lotAt : ByteArray := prog_4_method_3_code
def yX2_lotAt : MethodName := ⟨RX2, "lotAt", "(I)LWineFutures$Lot;"⟩
abbrev cX2_hasBuyer : ByteArray := prog_4_method_4_code
def yX2_hasBuyer : MethodName := ⟨RX2, "hasBuyer", "(I)Z"⟩
abbrev cX2_payEstate : ByteArray := prog_4_method_5_code
def yX2_payEstate : MethodName := ⟨RX2, "payEstate", "(II)V"⟩
abbrev cX2_addLot : ByteArray := prog_4_method_6_code
def yX2_addLot : MethodName := ⟨RX2, "addLot", "(II)I"⟩
abbrev cX2_tasteLot : ByteArray := prog_4_method_7_code
def yX2_tasteLot : MethodName := ⟨RX2, "tasteLot", "(II)I"⟩
abbrev cX2_topLot : ByteArray := prog_4_method_8_code
def yX2_topLot : MethodName := ⟨RX2, "topLot", "(I)I"⟩
abbrev cX2_passMonths : ByteArray := prog_4_method_9_code
def yX2_passMonths : MethodName := ⟨RX2, "passMonths", "(I)I"⟩
abbrev cX2_bottleLot : ByteArray := prog_4_method_10_code
def yX2_bottleLot : MethodName := ⟨RX2, "bottleLot", "(I)I"⟩
abbrev cX2_cutFutures : ByteArray := prog_4_method_11_code
def yX2_cutFutures : MethodName := ⟨RX2, "cutFutures", "(ILWineFutures$Lot;II)I"⟩
abbrev cX2_addBuyer : ByteArray := prog_4_method_12_code
def yX2_addBuyer : MethodName := ⟨RX2, "addBuyer", "()I"⟩
abbrev cX2_sellFutures : ByteArray := prog_4_method_13_code
def yX2_sellFutures : MethodName := ⟨RX2, "sellFutures", "(IIII)I"⟩
abbrev cX2_tradeFutures : ByteArray := prog_4_method_14_code
def yX2_tradeFutures : MethodName := ⟨RX2, "tradeFutures", "(IIIII)I"⟩
abbrev cX2_redeemFutures : ByteArray := prog_4_method_15_code
def yX2_redeemFutures : MethodName := ⟨RX2, "redeemFutures", "(III)I"⟩
abbrev cX2_changeSetting : ByteArray := prog_4_method_16_code
def yX2_changeSetting : MethodName := ⟨RX2, "changeSetting", "(II)I"⟩
abbrev cX2_lotValue : ByteArray := prog_4_method_17_code
def yX2_lotValue : MethodName := ⟨RX2, "lotValue", "(II)I"⟩
abbrev cX2_barrelValue : ByteArray := prog_4_method_18_code
def yX2_barrelValue : MethodName := ⟨RX2, "barrelValue", "(II)I"⟩
abbrev cX2_holdingValue : ByteArray := prog_4_method_19_code
def yX2_holdingValue : MethodName := ⟨RX2, "holdingValue", "(III)I"⟩
abbrev cX2_meanPaid : ByteArray := prog_4_method_20_code
def yX2_meanPaid : MethodName := ⟨RX2, "meanPaid", "(II)I"⟩
abbrev cX2_accountValue : ByteArray := prog_4_method_21_code
def yX2_accountValue : MethodName := ⟨RX2, "accountValue", "(I)I"⟩
abbrev cX2_number : ByteArray := prog_4_method_22_code
def yX2_number : MethodName := ⟨RX2, "number", "(I)I"⟩
abbrev cX2_totalOfLots : ByteArray := prog_4_method_23_code
def yX2_totalOfLots : MethodName := ⟨RX2, "totalOfLots", "(I)I"⟩
abbrev cX2_expectedCases : ByteArray := prog_4_method_24_code
def yX2_expectedCases : MethodName := ⟨RX2, "expectedCases", "(LWineFutures$Lot;)I"⟩
abbrev cX2_forecastCases : ByteArray := prog_4_method_25_code
def yX2_forecastCases : MethodName := ⟨RX2, "forecastCases", "(II)I"⟩
abbrev cX2_sellableFutures : ByteArray := prog_4_method_26_code
def yX2_sellableFutures : MethodName := ⟨RX2, "sellableFutures", "(I)I"⟩
abbrev cX2_monthsUntilTooFew : ByteArray := prog_4_method_27_code
def yX2_monthsUntilTooFew : MethodName := ⟨RX2, "monthsUntilTooFew", "(I)I"⟩
abbrev cX2_gainByTopping : ByteArray := prog_4_method_28_code
def yX2_gainByTopping : MethodName := ⟨RX2, "gainByTopping", "(I)I"⟩
abbrev cX2_greatestLoss : ByteArray := prog_4_method_29_code
def yX2_greatestLoss : MethodName := ⟨RX2, "greatestLoss", "(II)I"⟩
def RX3 : String := "WineFutures$History"
def TX3 : u_T := fun k => match k with
  | 0 => ("WineFutures$History", "rows", "[LWineFutures$Estate;", true)
  | 1 => ("WineFutures$History", "next", "I", false)
  | _ => ("WineFutures$History", "states", "I", false)
def tyX3 : Nat → FieldType := fun k => match k with
  | 0 => .array (.object "WineFutures$Estate")
  | 1 => .int
  | _ => .int
abbrev wsX30 : List Cond := u_ws RX3 TX3 3
theorem nmX3 : ∀ a, a < 3 → ∀ b, b < 3 → a ≠ b → (TX3 a).2.1 ≠ (TX3 b).2.1 := by decide +kernel
theorem tyX3_ok : ∀ k, k < 3 → parseFieldDescriptor (TX3 k).2.2.1 = some (tyX3 k) := by decide +kernel
abbrev cX3_init : ByteArray := prog_5_method_1_code
def yX3_init : MethodName := ⟨RX3, "<init>", "()V"⟩
abbrev cX3_draft : ByteArray := prog_5_method_2_code
def yX3_draft : MethodName := ⟨RX3, "draft", "(LWineFutures$Estate;)V"⟩
abbrev cX3_keepDraft : ByteArray := prog_5_method_3_code
def yX3_keepDraft : MethodName := ⟨RX3, "keepDraft", "()V"⟩
abbrev cX3_restore : ByteArray := prog_5_method_4_code
def yX3_restore : MethodName := ⟨RX3, "restore", "(LWineFutures$Estate;)I"⟩
abbrev cX3_nextRow : ByteArray := prog_5_method_5_code
def yX3_nextRow : MethodName := ⟨RX3, "nextRow", "()LWineFutures$Estate;"⟩
def RX4 : String := "WineFutures$Lot"
def TX4 : u_T := fun k => match k with
  | 0 => ("WineFutures$Lot", "barrels", "LWineFutures$Barrels;", true)
  | 1 => ("WineFutures$Lot", "held", "[I", true)
  | 2 => ("WineFutures$Lot", "paid", "[I", true)
  | 3 => ("WineFutures$Lot", "delivered", "[I", true)
  | 4 => ("WineFutures$Lot", "bottled", "Z", false)
  | 5 => ("WineFutures$Lot", "bottledCases", "I", false)
  | 6 => ("WineFutures$Lot", "scores", "I", false)
  | _ => ("WineFutures$Lot", "tastings", "I", false)
def tyX4 : Nat → FieldType := fun k => match k with
  | 0 => .object "WineFutures$Barrels"
  | 1 => .array .int
  | 2 => .array .int
  | 3 => .array .int
  | 4 => .boolean
  | 5 => .int
  | 6 => .int
  | _ => .int
abbrev wsX40 : List Cond := u_ws RX4 TX4 8
theorem nmX4 : ∀ a, a < 8 → ∀ b, b < 8 → a ≠ b → (TX4 a).2.1 ≠ (TX4 b).2.1 := by decide +kernel
theorem tyX4_ok : ∀ k, k < 8 → parseFieldDescriptor (TX4 k).2.2.1 = some (tyX4 k) := by decide +kernel
abbrev cX4_init : ByteArray := prog_6_method_1_code
def yX4_init : MethodName := ⟨RX4, "<init>", "()V"⟩
abbrev cX4_copyLot : ByteArray := prog_6_method_2_code
def yX4_copyLot : MethodName := ⟨RX4, "copyLot", "(LWineFutures$Lot;)V"⟩
abbrev cX4_quote : ByteArray := prog_6_method_3_code
def yX4_quote : MethodName := ⟨RX4, "quote", "()I"⟩
abbrev cX4_allHeld : ByteArray := prog_6_method_4_code
def yX4_allHeld : MethodName := ⟨RX4, "allHeld", "()I"⟩
abbrev cX4_allDelivered : ByteArray := prog_6_method_5_code
def yX4_allDelivered : MethodName := ⟨RX4, "allDelivered", "()I"⟩
abbrev cX4_casesNow : ByteArray := prog_6_method_6_code
def yX4_casesNow : MethodName := ⟨RX4, "casesNow", "()I"⟩
abbrev cX4_heldBy : ByteArray := prog_6_method_7_code
def yX4_heldBy : MethodName := ⟨RX4, "heldBy", "(I)I"⟩
abbrev cX4_paidBy : ByteArray := prog_6_method_8_code
def yX4_paidBy : MethodName := ⟨RX4, "paidBy", "(I)I"⟩
abbrev cX4_deliveredTo : ByteArray := prog_6_method_9_code
def yX4_deliveredTo : MethodName := ⟨RX4, "deliveredTo", "(I)I"⟩
abbrev cX4_give : ByteArray := prog_6_method_10_code
def yX4_give : MethodName := ⟨RX4, "give", "(III)V"⟩
abbrev cX4_takeBack : ByteArray := prog_6_method_11_code
def yX4_takeBack : MethodName := ⟨RX4, "takeBack", "(II)I"⟩
abbrev cX4_deliver : ByteArray := prog_6_method_12_code
def yX4_deliver : MethodName := ⟨RX4, "deliver", "(II)V"⟩
abbrev cX4_cutOf : ByteArray := prog_6_method_13_code
def yX4_cutOf : MethodName := ⟨RX4, "cutOf", "(III)I"⟩
abbrev cX4_fillBottles : ByteArray := prog_6_method_14_code
def yX4_fillBottles : MethodName := ⟨RX4, "fillBottles", "()V"⟩
def RX5 : String := "WineFutures$Orders"
def TX5 : u_T := fun k => match k with
  | 0 => ("WineFutures$Orders", "signs", "[I", true)
  | 1 => ("WineFutures$Orders", "numbers", "[I", true)
  | 2 => ("WineFutures$Orders", "length", "I", false)
  | 3 => ("WineFutures$Orders", "kind", "I", false)
  | _ => ("WineFutures$Orders", "place", "I", false)
def tyX5 : Nat → FieldType := fun k => match k with
  | 0 => .array .int
  | 1 => .array .int
  | 2 => .int
  | 3 => .int
  | _ => .int
abbrev wsX50 : List Cond := u_ws RX5 TX5 5
theorem nmX5 : ∀ a, a < 5 → ∀ b, b < 5 → a ≠ b → (TX5 a).2.1 ≠ (TX5 b).2.1 := by decide +kernel
theorem tyX5_ok : ∀ k, k < 5 → parseFieldDescriptor (TX5 k).2.2.1 = some (tyX5 k) := by decide +kernel
abbrev cX5_init : ByteArray := prog_7_method_1_code
def yX5_init : MethodName := ⟨RX5, "<init>", "()V"⟩
abbrev cX5_append : ByteArray := prog_7_method_2_code
def yX5_append : MethodName := ⟨RX5, "append", "(I)I"⟩
abbrev cX5_empty : ByteArray := prog_7_method_3_code
def yX5_empty : MethodName := ⟨RX5, "empty", "()I"⟩
abbrev cX5_sign : ByteArray := prog_7_method_4_code
def yX5_sign : MethodName := ⟨RX5, "sign", "()I"⟩
abbrev cX5_numberAt : ByteArray := prog_7_method_5_code
def yX5_numberAt : MethodName := ⟨RX5, "numberAt", "(I)I"⟩
abbrev cX5_read : ByteArray := prog_7_method_6_code
def yX5_read : MethodName := ⟨RX5, "read", "(I)Z"⟩
abbrev cX5_numbersOf : ByteArray := prog_7_method_7_code
def yX5_numbersOf : MethodName := ⟨RX5, "numbersOf", "(I)I"⟩
abbrev cX5_readNumber : ByteArray := prog_7_method_8_code
def yX5_readNumber : MethodName := ⟨RX5, "readNumber", "(I)Z"⟩
def RX6 : String := "WineFutures$Trial"
def TX6 : u_T := fun k => match k with
  | 0 => ("WineFutures$Trial", "estate", "LWineFutures$Estate;", true)
  | 1 => ("WineFutures$Trial", "orders", "I", false)
  | 2 => ("WineFutures$Trial", "position", "I", false)
  | 3 => ("WineFutures$Trial", "reason", "I", false)
  | _ => ("WineFutures$Trial", "cause", "I", false)
def tyX6 : Nat → FieldType := fun k => match k with
  | 0 => .object "WineFutures$Estate"
  | 1 => .int
  | 2 => .int
  | 3 => .int
  | _ => .int
abbrev wsX60 : List Cond := u_ws RX6 TX6 5
theorem nmX6 : ∀ a, a < 5 → ∀ b, b < 5 → a ≠ b → (TX6 a).2.1 ≠ (TX6 b).2.1 := by decide +kernel
theorem tyX6_ok : ∀ k, k < 5 → parseFieldDescriptor (TX6 k).2.2.1 = some (tyX6 k) := by decide +kernel
abbrev cX6_init : ByteArray := prog_8_method_1_code
def yX6_init : MethodName := ⟨RX6, "<init>", "()V"⟩
abbrev cX6_run : ByteArray := prog_8_method_2_code
def yX6_run : MethodName := ⟨RX6, "run", "(LWineFutures$Orders;LWineFutures$Estate;)V"⟩
abbrev cX6_answerOf : ByteArray := prog_8_method_3_code
def yX6_answerOf : MethodName := ⟨RX6, "answerOf", "(LWineFutures$Orders;)I"⟩
abbrev cX6_blame : ByteArray := prog_8_method_4_code
def yX6_blame : MethodName := ⟨RX6, "blame", "(III)V"⟩
def RX7 : String := "WineFutures"
def TX7 : u_T := fun k => match k with
  | 0 => ("WineFutures", "now", "LWineFutures$Estate;", true)
  | 1 => ("WineFutures", "history", "LWineFutures$History;", true)
  | 2 => ("WineFutures", "text", "LWineFutures$Orders;", true)
  | _ => ("WineFutures", "trial", "LWineFutures$Trial;", true)
def tyX7 : Nat → FieldType := fun k => match k with
  | 0 => .object "WineFutures$Estate"
  | 1 => .object "WineFutures$History"
  | 2 => .object "WineFutures$Orders"
  | _ => .object "WineFutures$Trial"
abbrev wsX70 : List Cond := u_ws RX7 TX7 4
theorem nmX7 : ∀ a, a < 4 → ∀ b, b < 4 → a ≠ b → (TX7 a).2.1 ≠ (TX7 b).2.1 := by decide +kernel
theorem tyX7_ok : ∀ k, k < 4 → parseFieldDescriptor (TX7 k).2.2.1 = some (tyX7 k) := by decide +kernel
abbrev cX7_init : ByteArray := prog_1_method_1_code
def yX7_init : MethodName := ⟨RX7, "<init>", "()V"⟩
abbrev cX7_lot : ByteArray := prog_1_method_2_code
def yX7_lot : MethodName := ⟨RX7, "lot", "(II)I"⟩
abbrev cX7_taste : ByteArray := prog_1_method_3_code
def yX7_taste : MethodName := ⟨RX7, "taste", "(II)I"⟩
abbrev cX7_top : ByteArray := prog_1_method_4_code
def yX7_top : MethodName := ⟨RX7, "top", "(I)I"⟩
abbrev cX7_pass : ByteArray := prog_1_method_5_code
def yX7_pass : MethodName := ⟨RX7, "pass", "(I)I"⟩
abbrev cX7_bottle : ByteArray := prog_1_method_6_code
def yX7_bottle : MethodName := ⟨RX7, "bottle", "(I)I"⟩
abbrev cX7_buyer : ByteArray := prog_1_method_7_code
def yX7_buyer : MethodName := ⟨RX7, "buyer", "()I"⟩
abbrev cX7_sell : ByteArray := prog_1_method_8_code
def yX7_sell : MethodName := ⟨RX7, "sell", "(IIII)I"⟩
abbrev cX7_trade : ByteArray := prog_1_method_9_code
def yX7_trade : MethodName := ⟨RX7, "trade", "(IIIII)I"⟩
abbrev cX7_redeem : ByteArray := prog_1_method_10_code
def yX7_redeem : MethodName := ⟨RX7, "redeem", "(III)I"⟩
abbrev cX7_set : ByteArray := prog_1_method_11_code
def yX7_set : MethodName := ⟨RX7, "set", "(II)I"⟩
abbrev cX7_lotOf : ByteArray := prog_1_method_12_code
def yX7_lotOf : MethodName := ⟨RX7, "lotOf", "(II)I"⟩
abbrev cX7_barrel : ByteArray := prog_1_method_13_code
def yX7_barrel : MethodName := ⟨RX7, "barrel", "(II)I"⟩
abbrev cX7_holding : ByteArray := prog_1_method_14_code
def yX7_holding : MethodName := ⟨RX7, "holding", "(III)I"⟩
abbrev cX7_account : ByteArray := prog_1_method_15_code
def yX7_account : MethodName := ⟨RX7, "account", "(I)I"⟩
abbrev cX7_entry : ByteArray := prog_1_method_16_code
def yX7_entry : MethodName := ⟨RX7, "entry", "(II)I"⟩
abbrev cX7_cases : ByteArray := prog_1_method_17_code
def yX7_cases : MethodName := ⟨RX7, "cases", "(II)I"⟩
abbrev cX7_sellable : ByteArray := prog_1_method_18_code
def yX7_sellable : MethodName := ⟨RX7, "sellable", "(I)I"⟩
abbrev cX7_deadline : ByteArray := prog_1_method_19_code
def yX7_deadline : MethodName := ⟨RX7, "deadline", "(I)I"⟩
abbrev cX7_topping : ByteArray := prog_1_method_20_code
def yX7_topping : MethodName := ⟨RX7, "topping", "(I)I"⟩
abbrev cX7_loser : ByteArray := prog_1_method_21_code
def yX7_loser : MethodName := ⟨RX7, "loser", "(II)I"⟩
abbrev cX7_count : ByteArray := prog_1_method_22_code
def yX7_count : MethodName := ⟨RX7, "count", "(I)I"⟩
abbrev cX7_undo : ByteArray := prog_1_method_23_code
def yX7_undo : MethodName := ⟨RX7, "undo", "()I"⟩
abbrev cX7_type : ByteArray := prog_1_method_24_code
def yX7_type : MethodName := ⟨RX7, "type", "(I)I"⟩
abbrev cX7_clearText : ByteArray := prog_1_method_25_code
def yX7_clearText : MethodName := ⟨RX7, "clearText", "()I"⟩
abbrev cX7_fault : ByteArray := prog_1_method_26_code
def yX7_fault : MethodName := ⟨RX7, "fault", "(I)I"⟩
abbrev cX7_play : ByteArray := prog_1_method_27_code
def yX7_play : MethodName := ⟨RX7, "play", "()I"⟩
abbrev cX7_settled : ByteArray := prog_1_method_28_code
def yX7_settled : MethodName := ⟨RX7, "settled", "(I)I"⟩
abbrev cX7_within : ByteArray := prog_1_method_29_code
def yX7_within : MethodName := ⟨RX7, "within", "(III)Z"⟩
abbrev cX7_share : ByteArray := prog_1_method_30_code
def yX7_share : MethodName := ⟨RX7, "share", "(III)I"⟩
abbrev cX7_sum : ByteArray := prog_1_method_31_code
def yX7_sum : MethodName := ⟨RX7, "sum", "([I)I"⟩
abbrev cX7_copyRow : ByteArray := prog_1_method_32_code
def yX7_copyRow : MethodName := ⟨RX7, "copyRow", "([I[I)V"⟩
abbrev cX7_floatBits : ByteArray := prog_1_method_33_code
def yX7_floatBits : MethodName := ⟨RX7, "floatBits", "(F)I"⟩
def RX8 : String := "WineFuturesModel"
def TX8 : u_T := fun k => match k with
  | 0 => ("WineFuturesModel", "s", "[I", true)
  | 1 => ("WineFuturesModel", "past", "[I", true)
  | 2 => ("WineFuturesModel", "held", "[I", true)
  | 3 => ("WineFuturesModel", "pasts", "I", false)
  | 4 => ("WineFuturesModel", "runs", "Z", false)
  | 5 => ("WineFuturesModel", "text", "[I", true)
  | 6 => ("WineFuturesModel", "typed", "I", false)
  | 7 => ("WineFuturesModel", "wine", "[I", true)
  | 8 => ("WineFuturesModel", "barrels", "I", false)
  | 9 => ("WineFuturesModel", "spot", "I", false)
  | 10 => ("WineFuturesModel", "from", "I", false)
  | 11 => ("WineFuturesModel", "reason", "I", false)
  | 12 => ("WineFuturesModel", "cause", "I", false)
  | 13 => ("WineFuturesModel", "orders", "I", false)
  | 14 => ("WineFuturesModel", "order", "I", false)
  | _ => ("WineFuturesModel", "told", "[I", true)
def tyX8 : Nat → FieldType := fun k => match k with
  | 0 => .array .int
  | 1 => .array .int
  | 2 => .array .int
  | 3 => .int
  | 4 => .boolean
  | 5 => .array .int
  | 6 => .int
  | 7 => .array .int
  | 8 => .int
  | 9 => .int
  | 10 => .int
  | 11 => .int
  | 12 => .int
  | 13 => .int
  | 14 => .int
  | _ => .array .int
abbrev wsX80 : List Cond := u_ws RX8 TX8 16
theorem nmX8 : ∀ a, a < 16 → ∀ b, b < 16 → a ≠ b → (TX8 a).2.1 ≠ (TX8 b).2.1 := by decide +kernel
theorem tyX8_ok : ∀ k, k < 16 → parseFieldDescriptor (TX8 k).2.2.1 = some (tyX8 k) := by decide +kernel
abbrev cX8_init : ByteArray := prog_10_method_1_code
def yX8_init : MethodName := ⟨RX8, "<init>", "()V"⟩
abbrev cX8_in : ByteArray := prog_10_method_3_code
def yX8_in : MethodName := ⟨RX8, "in", "(III)Z"⟩
abbrev cX8_copies : ByteArray := prog_10_method_4_code
def yX8_copies : MethodName := ⟨RX8, "copies", "([I[I)V"⟩
abbrev cX8_changes : ByteArray := prog_10_method_5_code
def yX8_changes : MethodName := ⟨RX8, "changes", "()V"⟩
abbrev cX8_isLot : ByteArray := prog_10_method_6_code
def yX8_isLot : MethodName := ⟨RX8, "isLot", "(I)Z"⟩
abbrev cX8_isBuyer : ByteArray := prog_10_method_7_code
def yX8_isBuyer : MethodName := ⟨RX8, "isBuyer", "(I)Z"⟩
abbrev cX8_of : ByteArray := prog_10_method_8_code
def yX8_of : MethodName := ⟨RX8, "of", "(II)I"⟩
abbrev cX8_isOpen : ByteArray := prog_10_method_9_code
def yX8_isOpen : MethodName := ⟨RX8, "isOpen", "(I)Z"⟩
abbrev cX8_hold : ByteArray := prog_10_method_10_code
def yX8_hold : MethodName := ⟨RX8, "hold", "(III)I"⟩
abbrev cX8_holds : ByteArray := prog_10_method_11_code
def yX8_holds : MethodName := ⟨RX8, "holds", "(II)I"⟩
abbrev cX8_allHeld : ByteArray := prog_10_method_12_code
def yX8_allHeld : MethodName := ⟨RX8, "allHeld", "(I)I"⟩
abbrev cX8_loads : ByteArray := prog_10_method_13_code
def yX8_loads : MethodName := ⟨RX8, "loads", "(I)V"⟩
abbrev cX8_lays : ByteArray := prog_10_method_14_code
def yX8_lays : MethodName := ⟨RX8, "lays", "(I)V"⟩
abbrev cX8_all : ByteArray := prog_10_method_15_code
def yX8_all : MethodName := ⟨RX8, "all", "()I"⟩
abbrev cX8_leaves : ByteArray := prog_10_method_16_code
def yX8_leaves : MethodName := ⟨RX8, "leaves", "()V"⟩
abbrev cX8_month : ByteArray := prog_10_method_17_code
def yX8_month : MethodName := ⟨RX8, "month", "(I)I"⟩
abbrev cX8_casesIn : ByteArray := prog_10_method_18_code
def yX8_casesIn : MethodName := ⟨RX8, "casesIn", "(II)I"⟩
abbrev cX8_expected : ByteArray := prog_10_method_19_code
def yX8_expected : MethodName := ⟨RX8, "expected", "(I)I"⟩
abbrev cX8_needy : ByteArray := prog_10_method_20_code
def yX8_needy : MethodName := ⟨RX8, "needy", "()I"⟩
abbrev cX8_tops : ByteArray := prog_10_method_21_code
def yX8_tops : MethodName := ⟨RX8, "tops", "()V"⟩
abbrev cX8_lot : ByteArray := prog_10_method_22_code
def yX8_lot : MethodName := ⟨RX8, "lot", "(II)I"⟩
abbrev cX8_quote : ByteArray := prog_10_method_23_code
def yX8_quote : MethodName := ⟨RX8, "quote", "(I)I"⟩
abbrev cX8_tasted : ByteArray := prog_10_method_24_code
def yX8_tasted : MethodName := ⟨RX8, "tasted", "()I"⟩
abbrev cX8_taste : ByteArray := prog_10_method_25_code
def yX8_taste : MethodName := ⟨RX8, "taste", "(II)I"⟩
abbrev cX8_top : ByteArray := prog_10_method_26_code
def yX8_top : MethodName := ⟨RX8, "top", "(I)I"⟩
abbrev cX8_passes : ByteArray := prog_10_method_27_code
def yX8_passes : MethodName := ⟨RX8, "passes", "()I"⟩
abbrev cX8_pass : ByteArray := prog_10_method_28_code
def yX8_pass : MethodName := ⟨RX8, "pass", "(I)I"⟩
abbrev cX8_enters : ByteArray := prog_10_method_29_code
def yX8_enters : MethodName := ⟨RX8, "enters", "(IIIIII)V"⟩
abbrev cX8_goes : ByteArray := prog_10_method_30_code
def yX8_goes : MethodName := ⟨RX8, "goes", "(III)I"⟩
abbrev cX8_wouldCut : ByteArray := prog_10_method_31_code
def yX8_wouldCut : MethodName := ⟨RX8, "wouldCut", "(IIII)I"⟩
abbrev cX8_bottle : ByteArray := prog_10_method_32_code
def yX8_bottle : MethodName := ⟨RX8, "bottle", "(I)I"⟩
abbrev cX8_buyer : ByteArray := prog_10_method_33_code
def yX8_buyer : MethodName := ⟨RX8, "buyer", "()I"⟩
abbrev cX8_areCases : ByteArray := prog_10_method_34_code
def yX8_areCases : MethodName := ⟨RX8, "areCases", "(II)Z"⟩
abbrev cX8_comes : ByteArray := prog_10_method_35_code
def yX8_comes : MethodName := ⟨RX8, "comes", "(IIIII)V"⟩
abbrev cX8_sell : ByteArray := prog_10_method_36_code
def yX8_sell : MethodName := ⟨RX8, "sell", "(IIII)I"⟩
abbrev cX8_trade : ByteArray := prog_10_method_37_code
def yX8_trade : MethodName := ⟨RX8, "trade", "(IIIII)I"⟩
abbrev cX8_redeem : ByteArray := prog_10_method_38_code
def yX8_redeem : MethodName := ⟨RX8, "redeem", "(III)I"⟩
abbrev cX8_set : ByteArray := prog_10_method_39_code
def yX8_set : MethodName := ⟨RX8, "set", "(II)I"⟩
abbrev cX8_lotOf : ByteArray := prog_10_method_40_code
def yX8_lotOf : MethodName := ⟨RX8, "lotOf", "(II)I"⟩
abbrev cX8_barrel : ByteArray := prog_10_method_41_code
def yX8_barrel : MethodName := ⟨RX8, "barrel", "(II)I"⟩
abbrev cX8_mean : ByteArray := prog_10_method_42_code
def yX8_mean : MethodName := ⟨RX8, "mean", "(II)I"⟩
abbrev cX8_holding : ByteArray := prog_10_method_43_code
def yX8_holding : MethodName := ⟨RX8, "holding", "(III)I"⟩
abbrev cX8_account : ByteArray := prog_10_method_44_code
def yX8_account : MethodName := ⟨RX8, "account", "(I)I"⟩
abbrev cX8_entry : ByteArray := prog_10_method_45_code
def yX8_entry : MethodName := ⟨RX8, "entry", "(II)I"⟩
abbrev cX8_cases : ByteArray := prog_10_method_46_code
def yX8_cases : MethodName := ⟨RX8, "cases", "(II)I"⟩
abbrev cX8_sellable : ByteArray := prog_10_method_47_code
def yX8_sellable : MethodName := ⟨RX8, "sellable", "(I)I"⟩
abbrev cX8_deadline : ByteArray := prog_10_method_48_code
def yX8_deadline : MethodName := ⟨RX8, "deadline", "(I)I"⟩
abbrev cX8_topping : ByteArray := prog_10_method_49_code
def yX8_topping : MethodName := ⟨RX8, "topping", "(I)I"⟩
abbrev cX8_loser : ByteArray := prog_10_method_50_code
def yX8_loser : MethodName := ⟨RX8, "loser", "(II)I"⟩
abbrev cX8_accounts : ByteArray := prog_10_method_51_code
def yX8_accounts : MethodName := ⟨RX8, "accounts", "()I"⟩
abbrev cX8_ofLots : ByteArray := prog_10_method_52_code
def yX8_ofLots : MethodName := ⟨RX8, "ofLots", "(Z)I"⟩
abbrev cX8_count : ByteArray := prog_10_method_53_code
def yX8_count : MethodName := ⟨RX8, "count", "(I)I"⟩
abbrev cX8_undo : ByteArray := prog_10_method_54_code
def yX8_undo : MethodName := ⟨RX8, "undo", "()I"⟩
abbrev cX8_type : ByteArray := prog_10_method_55_code
def yX8_type : MethodName := ⟨RX8, "type", "(I)I"⟩
abbrev cX8_clearText : ByteArray := prog_10_method_56_code
def yX8_clearText : MethodName := ⟨RX8, "clearText", "()I"⟩
abbrev cX8_isAt : ByteArray := prog_10_method_57_code
def yX8_isAt : MethodName := ⟨RX8, "isAt", "(II)Z"⟩
abbrev cX8_sign : ByteArray := prog_10_method_58_code
def yX8_sign : MethodName := ⟨RX8, "sign", "(I)Z"⟩
abbrev cX8_number : ByteArray := prog_10_method_59_code
def yX8_number : MethodName := ⟨RX8, "number", "(I)Z"⟩
abbrev cX8_numbersOf : ByteArray := prog_10_method_60_code
def yX8_numbersOf : MethodName := ⟨RX8, "numbersOf", "(I)I"⟩
abbrev cX8_reads : ByteArray := prog_10_method_61_code
def yX8_reads : MethodName := ⟨RX8, "reads", "()Z"⟩
abbrev cX8_calls : ByteArray := prog_10_method_62_code
def yX8_calls : MethodName := ⟨RX8, "calls", "()I"⟩
abbrev cX8_plays : ByteArray := prog_10_method_63_code
def yX8_plays : MethodName := ⟨RX8, "plays", "()Z"⟩
abbrev cX8_fault : ByteArray := prog_10_method_64_code
def yX8_fault : MethodName := ⟨RX8, "fault", "(I)I"⟩
abbrev cX8_play : ByteArray := prog_10_method_65_code
def yX8_play : MethodName := ⟨RX8, "play", "()I"⟩
def RJxf58ca : String := "java/lang/Float"
def TJxf58ca : u_T := fun k => match k with
  | _ => ("", "", "", false)
def tyJxf58ca : Nat → FieldType := fun k => match k with
  | _ => .int
abbrev wsJxf58ca0 : List Cond := u_ws RJxf58ca TJxf58ca 0
theorem nmJxf58ca : ∀ a, a < 0 → ∀ b, b < 0 → a ≠ b → (TJxf58ca a).2.1 ≠ (TJxf58ca b).2.1 := by decide +kernel
theorem tyJxf58ca_ok : ∀ k, k < 0 → parseFieldDescriptor (TJxf58ca k).2.2.1 = some (tyJxf58ca k) := by decide +kernel
abbrev cJxf58ca_isNaN_12338 : ByteArray := prog_11_method_6_code
def yJxf58ca_isNaN_12338 : MethodName := ⟨RJxf58ca, "isNaN", "(F)Z"⟩
abbrev cJxf58ca_floatToIntBits_5c35a : ByteArray := prog_11_method_24_code
def yJxf58ca_floatToIntBits_5c35a : MethodName := ⟨RJxf58ca, "floatToIntBits", "(F)I"⟩
def RJ9 : String := "java/lang/Math"
def TJ9 : u_T := fun k => match k with
  | _ => ("", "", "", false)
def tyJ9 : Nat → FieldType := fun k => match k with
  | _ => .int
abbrev wsJ90 : List Cond := u_ws RJ9 TJ9 0
theorem nmJ9 : ∀ a, a < 0 → ∀ b, b < 0 → a ≠ b → (TJ9 a).2.1 ≠ (TJ9 b).2.1 := by decide +kernel
theorem tyJ9_ok : ∀ k, k < 0 → parseFieldDescriptor (TJ9 k).2.2.1 = some (tyJ9 k) := by decide +kernel
abbrev cJ9_max_7cf53 : ByteArray := prog_12_method_65_code
def yJ9_max_7cf53 : MethodName := ⟨RJ9, "max", "(II)I"⟩
abbrev cJ9_min_7cf53 : ByteArray := prog_12_method_69_code
def yJ9_min_7cf53 : MethodName := ⟨RJ9, "min", "(II)I"⟩
def RL : String := "WineFuturesLaw"
abbrev cL_law : ByteArray := code
def yL_law : MethodName := ⟨RL, "law", "([I)Z"⟩
theorem dX0_init_0 : decode cX0_init 0 = .ok (.aload_n 0, 1) := by decide +kernel
theorem dX0_init_1 : decode cX0_init 1 = .ok (.invokespecial 3, 3) := by decide +kernel
theorem dX0_init_4 : decode cX0_init 4 = .ok (.aload_n 0, 1) := by decide +kernel
theorem dX0_init_5 : decode cX0_init 5 = .ok (.bipush 12, 2) := by decide +kernel
theorem dX0_init_7 : decode cX0_init 7 = .ok (.newarray .int, 2) := by decide +kernel
theorem dX0_init_9 : decode cX0_init 9 = .ok (.putfield 9, 3) := by decide +kernel
theorem dX0_init_12 : decode cX0_init 12 = .ok (.return_, 1) := by decide +kernel
theorem dX0_fill_0 : decode cX0_fill 0 = .ok (.aload_n 0, 1) := by decide +kernel
theorem dX0_fill_1 : decode cX0_fill 1 = .ok (.iload_n 1, 1) := by decide +kernel
theorem dX0_fill_2 : decode cX0_fill 2 = .ok (.putfield 15, 3) := by decide +kernel
theorem dX0_fill_5 : decode cX0_fill 5 = .ok (.aload_n 0, 1) := by decide +kernel
theorem dX0_fill_6 : decode cX0_fill 6 = .ok (.iload_n 2, 1) := by decide +kernel
theorem dX0_fill_7 : decode cX0_fill 7 = .ok (.putfield 19, 3) := by decide +kernel
theorem dX0_fill_10 : decode cX0_fill 10 = .ok (.iconst 0, 1) := by decide +kernel
theorem dX0_fill_11 : decode cX0_fill 11 = .ok (.istore_n 3, 1) := by decide +kernel
theorem dX0_fill_12 : decode cX0_fill 12 = .ok (.iload_n 3, 1) := by decide +kernel
theorem dX0_fill_13 : decode cX0_fill 13 = .ok (.aload_n 0, 1) := by decide +kernel
theorem dX0_fill_14 : decode cX0_fill 14 = .ok (.getfield 9, 3) := by decide +kernel
theorem dX0_fill_17 : decode cX0_fill 17 = .ok (.arraylength, 1) := by decide +kernel
theorem dX0_fill_18 : decode cX0_fill 18 = .ok (.if_icmp .ge 27, 3) := by decide +kernel
theorem dX0_fill_21 : decode cX0_fill 21 = .ok (.aload_n 0, 1) := by decide +kernel
theorem dX0_fill_22 : decode cX0_fill 22 = .ok (.getfield 9, 3) := by decide +kernel
theorem dX0_fill_25 : decode cX0_fill 25 = .ok (.iload_n 3, 1) := by decide +kernel
theorem dX0_fill_26 : decode cX0_fill 26 = .ok (.iload_n 3, 1) := by decide +kernel
theorem dX0_fill_27 : decode cX0_fill 27 = .ok (.iload_n 1, 1) := by decide +kernel
theorem dX0_fill_28 : decode cX0_fill 28 = .ok (.if_icmp .ge 9, 3) := by decide +kernel
theorem dX0_fill_31 : decode cX0_fill 31 = .ok (.sipush 2250, 3) := by decide +kernel
theorem dX0_fill_34 : decode cX0_fill 34 = .ok (.goto 4, 3) := by decide +kernel
theorem dX0_fill_37 : decode cX0_fill 37 = .ok (.iconst 0, 1) := by decide +kernel
theorem dX0_fill_38 : decode cX0_fill 38 = .ok (.iastore, 1) := by decide +kernel
theorem dX0_fill_39 : decode cX0_fill 39 = .ok (.iinc 3 1, 3) := by decide +kernel
theorem dX0_fill_42 : decode cX0_fill 42 = .ok (.goto (-30), 3) := by decide +kernel
theorem dX0_fill_45 : decode cX0_fill 45 = .ok (.return_, 1) := by decide +kernel
theorem dX0_copyBarrels_0 : decode cX0_copyBarrels 0 = .ok (.aload_n 1, 1) := by decide +kernel
theorem dX0_copyBarrels_1 : decode cX0_copyBarrels 1 = .ok (.getfield 9, 3) := by decide +kernel
theorem dX0_copyBarrels_4 : decode cX0_copyBarrels 4 = .ok (.aload_n 0, 1) := by decide +kernel
theorem dX0_copyBarrels_5 : decode cX0_copyBarrels 5 = .ok (.getfield 9, 3) := by decide +kernel
theorem dX0_copyBarrels_8 : decode cX0_copyBarrels 8 = .ok (.invokestatic 22, 3) := by decide +kernel
theorem dX0_copyBarrels_11 : decode cX0_copyBarrels 11 = .ok (.aload_n 0, 1) := by decide +kernel
theorem dX0_copyBarrels_12 : decode cX0_copyBarrels 12 = .ok (.aload_n 1, 1) := by decide +kernel
theorem dX0_copyBarrels_13 : decode cX0_copyBarrels 13 = .ok (.getfield 15, 3) := by decide +kernel
theorem dX0_copyBarrels_16 : decode cX0_copyBarrels 16 = .ok (.putfield 15, 3) := by decide +kernel
theorem dX0_copyBarrels_19 : decode cX0_copyBarrels 19 = .ok (.aload_n 0, 1) := by decide +kernel
theorem dX0_copyBarrels_20 : decode cX0_copyBarrels 20 = .ok (.aload_n 1, 1) := by decide +kernel
theorem dX0_copyBarrels_21 : decode cX0_copyBarrels 21 = .ok (.getfield 19, 3) := by decide +kernel
theorem dX0_copyBarrels_24 : decode cX0_copyBarrels 24 = .ok (.putfield 19, 3) := by decide +kernel
theorem dX0_copyBarrels_27 : decode cX0_copyBarrels 27 = .ok (.return_, 1) := by decide +kernel
theorem dX0_casesBehind_0 : decode cX0_casesBehind 0 = .ok (.iconst 0, 1) := by decide +kernel
theorem dX0_casesBehind_1 : decode cX0_casesBehind 1 = .ok (.istore_n 2, 1) := by decide +kernel
theorem dX0_casesBehind_2 : decode cX0_casesBehind 2 = .ok (.iconst 0, 1) := by decide +kernel
theorem dX0_casesBehind_3 : decode cX0_casesBehind 3 = .ok (.istore_n 3, 1) := by decide +kernel
theorem dX0_casesBehind_4 : decode cX0_casesBehind 4 = .ok (.iload_n 3, 1) := by decide +kernel
theorem dX0_casesBehind_5 : decode cX0_casesBehind 5 = .ok (.aload_n 0, 1) := by decide +kernel
theorem dX0_casesBehind_6 : decode cX0_casesBehind 6 = .ok (.getfield 15, 3) := by decide +kernel
theorem dX0_casesBehind_9 : decode cX0_casesBehind 9 = .ok (.if_icmp .ge 32, 3) := by decide +kernel
theorem dX0_casesBehind_12 : decode cX0_casesBehind 12 = .ok (.iload_n 3, 1) := by decide +kernel
theorem dX0_casesBehind_13 : decode cX0_casesBehind 13 = .ok (.aload_n 0, 1) := by decide +kernel
theorem dX0_casesBehind_14 : decode cX0_casesBehind 14 = .ok (.getfield 9, 3) := by decide +kernel
theorem dX0_casesBehind_17 : decode cX0_casesBehind 17 = .ok (.arraylength, 1) := by decide +kernel
theorem dX0_casesBehind_18 : decode cX0_casesBehind 18 = .ok (.if_icmp .ge 23, 3) := by decide +kernel
theorem dX0_casesBehind_21 : decode cX0_casesBehind 21 = .ok (.iload_n 2, 1) := by decide +kernel
theorem dX0_casesBehind_22 : decode cX0_casesBehind 22 = .ok (.aload_n 0, 1) := by decide +kernel
theorem dX0_casesBehind_23 : decode cX0_casesBehind 23 = .ok (.aload_n 0, 1) := by decide +kernel
theorem dX0_casesBehind_24 : decode cX0_casesBehind 24 = .ok (.getfield 9, 3) := by decide +kernel
theorem dX0_casesBehind_27 : decode cX0_casesBehind 27 = .ok (.iload_n 3, 1) := by decide +kernel
theorem dX0_casesBehind_28 : decode cX0_casesBehind 28 = .ok (.iaload, 1) := by decide +kernel
theorem dX0_casesBehind_29 : decode cX0_casesBehind 29 = .ok (.iload_n 1, 1) := by decide +kernel
theorem dX0_casesBehind_30 : decode cX0_casesBehind 30 = .ok (.invokevirtual 26, 3) := by decide +kernel
theorem dX0_casesBehind_33 : decode cX0_casesBehind 33 = .ok (.iadd, 1) := by decide +kernel
theorem dX0_casesBehind_34 : decode cX0_casesBehind 34 = .ok (.istore_n 2, 1) := by decide +kernel
theorem dX0_casesBehind_35 : decode cX0_casesBehind 35 = .ok (.iinc 3 1, 3) := by decide +kernel
theorem dX0_casesBehind_38 : decode cX0_casesBehind 38 = .ok (.goto (-34), 3) := by decide +kernel
theorem dX0_casesBehind_41 : decode cX0_casesBehind 41 = .ok (.iload_n 2, 1) := by decide +kernel
theorem dX0_casesBehind_42 : decode cX0_casesBehind 42 = .ok (.bipush 90, 2) := by decide +kernel
theorem dX0_casesBehind_44 : decode cX0_casesBehind 44 = .ok (.idiv, 1) := by decide +kernel
theorem dX0_casesBehind_45 : decode cX0_casesBehind 45 = .ok (.ireturn, 1) := by decide +kernel
theorem dX0_lose_0 : decode cX0_lose 0 = .ok (.iconst 0, 1) := by decide +kernel
theorem dX0_lose_1 : decode cX0_lose 1 = .ok (.istore_n 2, 1) := by decide +kernel
theorem dX0_lose_2 : decode cX0_lose 2 = .ok (.iconst 0, 1) := by decide +kernel
theorem dX0_lose_3 : decode cX0_lose 3 = .ok (.istore_n 3, 1) := by decide +kernel
theorem dX0_lose_4 : decode cX0_lose 4 = .ok (.iload_n 3, 1) := by decide +kernel
theorem dX0_lose_5 : decode cX0_lose 5 = .ok (.aload_n 0, 1) := by decide +kernel
theorem dX0_lose_6 : decode cX0_lose 6 = .ok (.getfield 15, 3) := by decide +kernel
theorem dX0_lose_9 : decode cX0_lose 9 = .ok (.if_icmp .ge 51, 3) := by decide +kernel
theorem dX0_lose_12 : decode cX0_lose 12 = .ok (.iload_n 3, 1) := by decide +kernel
theorem dX0_lose_13 : decode cX0_lose 13 = .ok (.aload_n 0, 1) := by decide +kernel
theorem dX0_lose_14 : decode cX0_lose 14 = .ok (.getfield 9, 3) := by decide +kernel
theorem dX0_lose_17 : decode cX0_lose 17 = .ok (.arraylength, 1) := by decide +kernel
theorem dX0_lose_18 : decode cX0_lose 18 = .ok (.if_icmp .ge 42, 3) := by decide +kernel
theorem dX0_lose_21 : decode cX0_lose 21 = .ok (.aload_n 0, 1) := by decide +kernel
theorem dX0_lose_22 : decode cX0_lose 22 = .ok (.aload_n 0, 1) := by decide +kernel
theorem dX0_lose_23 : decode cX0_lose 23 = .ok (.getfield 9, 3) := by decide +kernel
theorem dX0_lose_26 : decode cX0_lose 26 = .ok (.iload_n 3, 1) := by decide +kernel
theorem dX0_lose_27 : decode cX0_lose 27 = .ok (.iaload, 1) := by decide +kernel
theorem dX0_lose_28 : decode cX0_lose 28 = .ok (.iload_n 1, 1) := by decide +kernel
theorem dX0_lose_29 : decode cX0_lose 29 = .ok (.invokevirtual 26, 3) := by decide +kernel
theorem dX0_lose_32 : decode cX0_lose 32 = .ok (.istore 4, 2) := by decide +kernel
theorem dX0_lose_34 : decode cX0_lose 34 = .ok (.iload_n 2, 1) := by decide +kernel
theorem dX0_lose_35 : decode cX0_lose 35 = .ok (.aload_n 0, 1) := by decide +kernel
theorem dX0_lose_36 : decode cX0_lose 36 = .ok (.getfield 9, 3) := by decide +kernel
theorem dX0_lose_39 : decode cX0_lose 39 = .ok (.iload_n 3, 1) := by decide +kernel
theorem dX0_lose_40 : decode cX0_lose 40 = .ok (.iaload, 1) := by decide +kernel
theorem dX0_lose_41 : decode cX0_lose 41 = .ok (.iload 4, 2) := by decide +kernel
theorem dX0_lose_43 : decode cX0_lose 43 = .ok (.isub, 1) := by decide +kernel
theorem dX0_lose_44 : decode cX0_lose 44 = .ok (.iadd, 1) := by decide +kernel
theorem dX0_lose_45 : decode cX0_lose 45 = .ok (.istore_n 2, 1) := by decide +kernel
theorem dX0_lose_46 : decode cX0_lose 46 = .ok (.aload_n 0, 1) := by decide +kernel
theorem dX0_lose_47 : decode cX0_lose 47 = .ok (.getfield 9, 3) := by decide +kernel
theorem dX0_lose_50 : decode cX0_lose 50 = .ok (.iload_n 3, 1) := by decide +kernel
theorem dX0_lose_51 : decode cX0_lose 51 = .ok (.iload 4, 2) := by decide +kernel
theorem dX0_lose_53 : decode cX0_lose 53 = .ok (.iastore, 1) := by decide +kernel
theorem dX0_lose_54 : decode cX0_lose 54 = .ok (.iinc 3 1, 3) := by decide +kernel
theorem dX0_lose_57 : decode cX0_lose 57 = .ok (.goto (-53), 3) := by decide +kernel
theorem dX0_lose_60 : decode cX0_lose 60 = .ok (.iload_n 2, 1) := by decide +kernel
theorem dX0_lose_61 : decode cX0_lose 61 = .ok (.ireturn, 1) := by decide +kernel
theorem dX0_wineBehind_0 : decode cX0_wineBehind 0 = .ok (.iload_n 1, 1) := by decide +kernel
theorem dX0_wineBehind_1 : decode cX0_wineBehind 1 = .ok (.istore_n 3, 1) := by decide +kernel
theorem dX0_wineBehind_2 : decode cX0_wineBehind 2 = .ok (.iconst 0, 1) := by decide +kernel
theorem dX0_wineBehind_3 : decode cX0_wineBehind 3 = .ok (.istore 4, 2) := by decide +kernel
theorem dX0_wineBehind_5 : decode cX0_wineBehind 5 = .ok (.iload 4, 2) := by decide +kernel
theorem dX0_wineBehind_7 : decode cX0_wineBehind 7 = .ok (.iload_n 2, 1) := by decide +kernel
theorem dX0_wineBehind_8 : decode cX0_wineBehind 8 = .ok (.if_icmp .ge 48, 3) := by decide +kernel
theorem dX0_wineBehind_11 : decode cX0_wineBehind 11 = .ok (.iload_n 3, 1) := by decide +kernel
theorem dX0_wineBehind_12 : decode cX0_wineBehind 12 = .ok (.aload_n 0, 1) := by decide +kernel
theorem dX0_wineBehind_13 : decode cX0_wineBehind 13 = .ok (.getfield 19, 3) := by decide +kernel
theorem dX0_wineBehind_16 : decode cX0_wineBehind 16 = .ok (.imul, 1) := by decide +kernel
theorem dX0_wineBehind_17 : decode cX0_wineBehind 17 = .ok (.sipush 1000, 3) := by decide +kernel
theorem dX0_wineBehind_20 : decode cX0_wineBehind 20 = .ok (.idiv, 1) := by decide +kernel
theorem dX0_wineBehind_21 : decode cX0_wineBehind 21 = .ok (.istore 5, 2) := by decide +kernel
theorem dX0_wineBehind_23 : decode cX0_wineBehind 23 = .ok (.iload 5, 2) := by decide +kernel
theorem dX0_wineBehind_25 : decode cX0_wineBehind 25 = .ok (.ifCond .ne 6, 3) := by decide +kernel
theorem dX0_wineBehind_28 : decode cX0_wineBehind 28 = .ok (.goto 28, 3) := by decide +kernel
theorem dX0_wineBehind_31 : decode cX0_wineBehind 31 = .ok (.iload_n 3, 1) := by decide +kernel
theorem dX0_wineBehind_32 : decode cX0_wineBehind 32 = .ok (.iload_n 3, 1) := by decide +kernel
theorem dX0_wineBehind_33 : decode cX0_wineBehind 33 = .ok (.sipush 1800, 3) := by decide +kernel
theorem dX0_wineBehind_36 : decode cX0_wineBehind 36 = .ok (.if_icmp .ge 10, 3) := by decide +kernel
theorem dX0_wineBehind_39 : decode cX0_wineBehind 39 = .ok (.iconst 2, 1) := by decide +kernel
theorem dX0_wineBehind_40 : decode cX0_wineBehind 40 = .ok (.iload 5, 2) := by decide +kernel
theorem dX0_wineBehind_42 : decode cX0_wineBehind 42 = .ok (.imul, 1) := by decide +kernel
theorem dX0_wineBehind_43 : decode cX0_wineBehind 43 = .ok (.goto 5, 3) := by decide +kernel
theorem dX0_wineBehind_46 : decode cX0_wineBehind 46 = .ok (.iload 5, 2) := by decide +kernel
theorem dX0_wineBehind_48 : decode cX0_wineBehind 48 = .ok (.isub, 1) := by decide +kernel
theorem dX0_wineBehind_49 : decode cX0_wineBehind 49 = .ok (.istore_n 3, 1) := by decide +kernel
theorem dX0_wineBehind_50 : decode cX0_wineBehind 50 = .ok (.iinc 4 1, 3) := by decide +kernel
theorem dX0_wineBehind_53 : decode cX0_wineBehind 53 = .ok (.goto (-48), 3) := by decide +kernel
theorem dX0_wineBehind_56 : decode cX0_wineBehind 56 = .ok (.iload_n 3, 1) := by decide +kernel
theorem dX0_wineBehind_57 : decode cX0_wineBehind 57 = .ok (.ireturn, 1) := by decide +kernel
theorem dX0_barrelForTasting_0 : decode cX0_barrelForTasting 0 = .ok (.iconst 0, 1) := by decide +kernel
theorem dX0_barrelForTasting_1 : decode cX0_barrelForTasting 1 = .ok (.istore_n 1, 1) := by decide +kernel
theorem dX0_barrelForTasting_2 : decode cX0_barrelForTasting 2 = .ok (.iload_n 1, 1) := by decide +kernel
theorem dX0_barrelForTasting_3 : decode cX0_barrelForTasting 3 = .ok (.aload_n 0, 1) := by decide +kernel
theorem dX0_barrelForTasting_4 : decode cX0_barrelForTasting 4 = .ok (.getfield 15, 3) := by decide +kernel
theorem dX0_barrelForTasting_7 : decode cX0_barrelForTasting 7 = .ok (.if_icmp .ge 31, 3) := by decide +kernel
theorem dX0_barrelForTasting_10 : decode cX0_barrelForTasting 10 = .ok (.iload_n 1, 1) := by decide +kernel
theorem dX0_barrelForTasting_11 : decode cX0_barrelForTasting 11 = .ok (.aload_n 0, 1) := by decide +kernel
theorem dX0_barrelForTasting_12 : decode cX0_barrelForTasting 12 = .ok (.getfield 9, 3) := by decide +kernel
theorem dX0_barrelForTasting_15 : decode cX0_barrelForTasting 15 = .ok (.arraylength, 1) := by decide +kernel
theorem dX0_barrelForTasting_16 : decode cX0_barrelForTasting 16 = .ok (.if_icmp .ge 22, 3) := by decide +kernel
theorem dX0_barrelForTasting_19 : decode cX0_barrelForTasting 19 = .ok (.aload_n 0, 1) := by decide +kernel
theorem dX0_barrelForTasting_20 : decode cX0_barrelForTasting 20 = .ok (.getfield 9, 3) := by decide +kernel
theorem dX0_barrelForTasting_23 : decode cX0_barrelForTasting 23 = .ok (.iload_n 1, 1) := by decide +kernel
theorem dX0_barrelForTasting_24 : decode cX0_barrelForTasting 24 = .ok (.iaload, 1) := by decide +kernel
theorem dX0_barrelForTasting_25 : decode cX0_barrelForTasting 25 = .ok (.bipush 10, 2) := by decide +kernel
theorem dX0_barrelForTasting_27 : decode cX0_barrelForTasting 27 = .ok (.if_icmp .lt 5, 3) := by decide +kernel
theorem dX0_barrelForTasting_30 : decode cX0_barrelForTasting 30 = .ok (.iload_n 1, 1) := by decide +kernel
theorem dX0_barrelForTasting_31 : decode cX0_barrelForTasting 31 = .ok (.ireturn, 1) := by decide +kernel
theorem dX0_barrelForTasting_32 : decode cX0_barrelForTasting 32 = .ok (.iinc 1 1, 3) := by decide +kernel
theorem dX0_barrelForTasting_35 : decode cX0_barrelForTasting 35 = .ok (.goto (-33), 3) := by decide +kernel
theorem dX0_barrelForTasting_38 : decode cX0_barrelForTasting 38 = .ok (.iconst (-1), 1) := by decide +kernel
theorem dX0_barrelForTasting_39 : decode cX0_barrelForTasting 39 = .ok (.ireturn, 1) := by decide +kernel
theorem dX0_takeSip_0 : decode cX0_takeSip 0 = .ok (.iload_n 1, 1) := by decide +kernel
theorem dX0_takeSip_1 : decode cX0_takeSip 1 = .ok (.ifCond .lt 20, 3) := by decide +kernel
theorem dX0_takeSip_4 : decode cX0_takeSip 4 = .ok (.iload_n 1, 1) := by decide +kernel
theorem dX0_takeSip_5 : decode cX0_takeSip 5 = .ok (.aload_n 0, 1) := by decide +kernel
theorem dX0_takeSip_6 : decode cX0_takeSip 6 = .ok (.getfield 15, 3) := by decide +kernel
theorem dX0_takeSip_9 : decode cX0_takeSip 9 = .ok (.if_icmp .ge 12, 3) := by decide +kernel
theorem dX0_takeSip_12 : decode cX0_takeSip 12 = .ok (.iload_n 1, 1) := by decide +kernel
theorem dX0_takeSip_13 : decode cX0_takeSip 13 = .ok (.aload_n 0, 1) := by decide +kernel
theorem dX0_takeSip_14 : decode cX0_takeSip 14 = .ok (.getfield 9, 3) := by decide +kernel
theorem dX0_takeSip_17 : decode cX0_takeSip 17 = .ok (.arraylength, 1) := by decide +kernel
theorem dX0_takeSip_18 : decode cX0_takeSip 18 = .ok (.if_icmp .lt 4, 3) := by decide +kernel
theorem dX0_takeSip_21 : decode cX0_takeSip 21 = .ok (.return_, 1) := by decide +kernel
theorem dX0_takeSip_22 : decode cX0_takeSip 22 = .ok (.aload_n 0, 1) := by decide +kernel
theorem dX0_takeSip_23 : decode cX0_takeSip 23 = .ok (.getfield 9, 3) := by decide +kernel
theorem dX0_takeSip_26 : decode cX0_takeSip 26 = .ok (.iload_n 1, 1) := by decide +kernel
theorem dX0_takeSip_27 : decode cX0_takeSip 27 = .ok (.dup2, 1) := by decide +kernel
theorem dX0_takeSip_28 : decode cX0_takeSip 28 = .ok (.iaload, 1) := by decide +kernel
theorem dX0_takeSip_29 : decode cX0_takeSip 29 = .ok (.bipush 10, 2) := by decide +kernel
theorem dX0_takeSip_31 : decode cX0_takeSip 31 = .ok (.isub, 1) := by decide +kernel
theorem dX0_takeSip_32 : decode cX0_takeSip 32 = .ok (.iastore, 1) := by decide +kernel
theorem dX0_takeSip_33 : decode cX0_takeSip 33 = .ok (.aload_n 0, 1) := by decide +kernel
theorem dX0_takeSip_34 : decode cX0_takeSip 34 = .ok (.getfield 9, 3) := by decide +kernel
theorem dX0_takeSip_37 : decode cX0_takeSip 37 = .ok (.iload_n 1, 1) := by decide +kernel
theorem dX0_takeSip_38 : decode cX0_takeSip 38 = .ok (.iaload, 1) := by decide +kernel
theorem dX0_takeSip_39 : decode cX0_takeSip 39 = .ok (.ifCond .ne 8, 3) := by decide +kernel
theorem dX0_takeSip_42 : decode cX0_takeSip 42 = .ok (.aload_n 0, 1) := by decide +kernel
theorem dX0_takeSip_43 : decode cX0_takeSip 43 = .ok (.iload_n 1, 1) := by decide +kernel
theorem dX0_takeSip_44 : decode cX0_takeSip 44 = .ok (.invokevirtual 30, 3) := by decide +kernel
theorem dX0_takeSip_47 : decode cX0_takeSip 47 = .ok (.return_, 1) := by decide +kernel
theorem dX0_leaveOut_0 : decode cX0_leaveOut 0 = .ok (.iload_n 1, 1) := by decide +kernel
theorem dX0_leaveOut_1 : decode cX0_leaveOut 1 = .ok (.istore_n 2, 1) := by decide +kernel
theorem dX0_leaveOut_2 : decode cX0_leaveOut 2 = .ok (.iload_n 2, 1) := by decide +kernel
theorem dX0_leaveOut_3 : decode cX0_leaveOut 3 = .ok (.ifCond .lt 34, 3) := by decide +kernel
theorem dX0_leaveOut_6 : decode cX0_leaveOut 6 = .ok (.iload_n 2, 1) := by decide +kernel
theorem dX0_leaveOut_7 : decode cX0_leaveOut 7 = .ok (.iconst 1, 1) := by decide +kernel
theorem dX0_leaveOut_8 : decode cX0_leaveOut 8 = .ok (.iadd, 1) := by decide +kernel
theorem dX0_leaveOut_9 : decode cX0_leaveOut 9 = .ok (.aload_n 0, 1) := by decide +kernel
theorem dX0_leaveOut_10 : decode cX0_leaveOut 10 = .ok (.getfield 9, 3) := by decide +kernel
theorem dX0_leaveOut_13 : decode cX0_leaveOut 13 = .ok (.arraylength, 1) := by decide +kernel
theorem dX0_leaveOut_14 : decode cX0_leaveOut 14 = .ok (.if_icmp .ge 23, 3) := by decide +kernel
theorem dX0_leaveOut_17 : decode cX0_leaveOut 17 = .ok (.aload_n 0, 1) := by decide +kernel
theorem dX0_leaveOut_18 : decode cX0_leaveOut 18 = .ok (.getfield 9, 3) := by decide +kernel
theorem dX0_leaveOut_21 : decode cX0_leaveOut 21 = .ok (.iload_n 2, 1) := by decide +kernel
theorem dX0_leaveOut_22 : decode cX0_leaveOut 22 = .ok (.aload_n 0, 1) := by decide +kernel
theorem dX0_leaveOut_23 : decode cX0_leaveOut 23 = .ok (.getfield 9, 3) := by decide +kernel
theorem dX0_leaveOut_26 : decode cX0_leaveOut 26 = .ok (.iload_n 2, 1) := by decide +kernel
theorem dX0_leaveOut_27 : decode cX0_leaveOut 27 = .ok (.iconst 1, 1) := by decide +kernel
theorem dX0_leaveOut_28 : decode cX0_leaveOut 28 = .ok (.iadd, 1) := by decide +kernel
theorem dX0_leaveOut_29 : decode cX0_leaveOut 29 = .ok (.iaload, 1) := by decide +kernel
theorem dX0_leaveOut_30 : decode cX0_leaveOut 30 = .ok (.iastore, 1) := by decide +kernel
theorem dX0_leaveOut_31 : decode cX0_leaveOut 31 = .ok (.iinc 2 1, 3) := by decide +kernel
theorem dX0_leaveOut_34 : decode cX0_leaveOut 34 = .ok (.goto (-32), 3) := by decide +kernel
theorem dX0_leaveOut_37 : decode cX0_leaveOut 37 = .ok (.aload_n 0, 1) := by decide +kernel
theorem dX0_leaveOut_38 : decode cX0_leaveOut 38 = .ok (.getfield 9, 3) := by decide +kernel
theorem dX0_leaveOut_41 : decode cX0_leaveOut 41 = .ok (.aload_n 0, 1) := by decide +kernel
theorem dX0_leaveOut_42 : decode cX0_leaveOut 42 = .ok (.getfield 9, 3) := by decide +kernel
theorem dX0_leaveOut_45 : decode cX0_leaveOut 45 = .ok (.arraylength, 1) := by decide +kernel
theorem dX0_leaveOut_46 : decode cX0_leaveOut 46 = .ok (.iconst 1, 1) := by decide +kernel
theorem dX0_leaveOut_47 : decode cX0_leaveOut 47 = .ok (.isub, 1) := by decide +kernel
theorem dX0_leaveOut_48 : decode cX0_leaveOut 48 = .ok (.iconst 0, 1) := by decide +kernel
theorem dX0_leaveOut_49 : decode cX0_leaveOut 49 = .ok (.iastore, 1) := by decide +kernel
theorem dX0_leaveOut_50 : decode cX0_leaveOut 50 = .ok (.aload_n 0, 1) := by decide +kernel
theorem dX0_leaveOut_51 : decode cX0_leaveOut 51 = .ok (.dup, 1) := by decide +kernel
theorem dX0_leaveOut_52 : decode cX0_leaveOut 52 = .ok (.getfield 15, 3) := by decide +kernel
theorem dX0_leaveOut_55 : decode cX0_leaveOut 55 = .ok (.iconst 1, 1) := by decide +kernel
theorem dX0_leaveOut_56 : decode cX0_leaveOut 56 = .ok (.isub, 1) := by decide +kernel
theorem dX0_leaveOut_57 : decode cX0_leaveOut 57 = .ok (.putfield 15, 3) := by decide +kernel
theorem dX0_leaveOut_60 : decode cX0_leaveOut 60 = .ok (.return_, 1) := by decide +kernel
theorem dX0_canBeToppedUp_0 : decode cX0_canBeToppedUp 0 = .ok (.iconst 0, 1) := by decide +kernel
theorem dX0_canBeToppedUp_1 : decode cX0_canBeToppedUp 1 = .ok (.istore_n 1, 1) := by decide +kernel
theorem dX0_canBeToppedUp_2 : decode cX0_canBeToppedUp 2 = .ok (.iload_n 1, 1) := by decide +kernel
theorem dX0_canBeToppedUp_3 : decode cX0_canBeToppedUp 3 = .ok (.aload_n 0, 1) := by decide +kernel
theorem dX0_canBeToppedUp_4 : decode cX0_canBeToppedUp 4 = .ok (.getfield 15, 3) := by decide +kernel
theorem dX0_canBeToppedUp_7 : decode cX0_canBeToppedUp 7 = .ok (.iconst 1, 1) := by decide +kernel
theorem dX0_canBeToppedUp_8 : decode cX0_canBeToppedUp 8 = .ok (.isub, 1) := by decide +kernel
theorem dX0_canBeToppedUp_9 : decode cX0_canBeToppedUp 9 = .ok (.if_icmp .ge 32, 3) := by decide +kernel
theorem dX0_canBeToppedUp_12 : decode cX0_canBeToppedUp 12 = .ok (.iload_n 1, 1) := by decide +kernel
theorem dX0_canBeToppedUp_13 : decode cX0_canBeToppedUp 13 = .ok (.aload_n 0, 1) := by decide +kernel
theorem dX0_canBeToppedUp_14 : decode cX0_canBeToppedUp 14 = .ok (.getfield 9, 3) := by decide +kernel
theorem dX0_canBeToppedUp_17 : decode cX0_canBeToppedUp 17 = .ok (.arraylength, 1) := by decide +kernel
theorem dX0_canBeToppedUp_18 : decode cX0_canBeToppedUp 18 = .ok (.if_icmp .ge 23, 3) := by decide +kernel
theorem dX0_canBeToppedUp_21 : decode cX0_canBeToppedUp 21 = .ok (.aload_n 0, 1) := by decide +kernel
theorem dX0_canBeToppedUp_22 : decode cX0_canBeToppedUp 22 = .ok (.getfield 9, 3) := by decide +kernel
theorem dX0_canBeToppedUp_25 : decode cX0_canBeToppedUp 25 = .ok (.iload_n 1, 1) := by decide +kernel
theorem dX0_canBeToppedUp_26 : decode cX0_canBeToppedUp 26 = .ok (.iaload, 1) := by decide +kernel
theorem dX0_canBeToppedUp_27 : decode cX0_canBeToppedUp 27 = .ok (.sipush 2250, 3) := by decide +kernel
theorem dX0_canBeToppedUp_30 : decode cX0_canBeToppedUp 30 = .ok (.if_icmp .ge 5, 3) := by decide +kernel
theorem dX0_canBeToppedUp_33 : decode cX0_canBeToppedUp 33 = .ok (.iconst 1, 1) := by decide +kernel
theorem dX0_canBeToppedUp_34 : decode cX0_canBeToppedUp 34 = .ok (.ireturn, 1) := by decide +kernel
theorem dX0_canBeToppedUp_35 : decode cX0_canBeToppedUp 35 = .ok (.iinc 1 1, 3) := by decide +kernel
theorem dX0_canBeToppedUp_38 : decode cX0_canBeToppedUp 38 = .ok (.goto (-36), 3) := by decide +kernel
theorem dX0_canBeToppedUp_41 : decode cX0_canBeToppedUp 41 = .ok (.iconst 0, 1) := by decide +kernel
theorem dX0_canBeToppedUp_42 : decode cX0_canBeToppedUp 42 = .ok (.ireturn, 1) := by decide +kernel
theorem dX0_topUp_0 : decode cX0_topUp 0 = .ok (.iconst 0, 1) := by decide +kernel
theorem dX0_topUp_1 : decode cX0_topUp 1 = .ok (.istore_n 1, 1) := by decide +kernel
theorem dX0_topUp_2 : decode cX0_topUp 2 = .ok (.iconst 0, 1) := by decide +kernel
theorem dX0_topUp_3 : decode cX0_topUp 3 = .ok (.istore_n 2, 1) := by decide +kernel
theorem dX0_topUp_4 : decode cX0_topUp 4 = .ok (.iload_n 2, 1) := by decide +kernel
theorem dX0_topUp_5 : decode cX0_topUp 5 = .ok (.bipush 24, 2) := by decide +kernel
theorem dX0_topUp_7 : decode cX0_topUp 7 = .ok (.if_icmp .ge 115, 3) := by decide +kernel
theorem dX0_topUp_10 : decode cX0_topUp 10 = .ok (.iload_n 1, 1) := by decide +kernel
theorem dX0_topUp_11 : decode cX0_topUp 11 = .ok (.aload_n 0, 1) := by decide +kernel
theorem dX0_topUp_12 : decode cX0_topUp 12 = .ok (.getfield 15, 3) := by decide +kernel
theorem dX0_topUp_15 : decode cX0_topUp 15 = .ok (.iconst 1, 1) := by decide +kernel
theorem dX0_topUp_16 : decode cX0_topUp 16 = .ok (.isub, 1) := by decide +kernel
theorem dX0_topUp_17 : decode cX0_topUp 17 = .ok (.if_icmp .ge 105, 3) := by decide +kernel
theorem dX0_topUp_20 : decode cX0_topUp 20 = .ok (.aload_n 0, 1) := by decide +kernel
theorem dX0_topUp_21 : decode cX0_topUp 21 = .ok (.getfield 15, 3) := by decide +kernel
theorem dX0_topUp_24 : decode cX0_topUp 24 = .ok (.aload_n 0, 1) := by decide +kernel
theorem dX0_topUp_25 : decode cX0_topUp 25 = .ok (.getfield 9, 3) := by decide +kernel
theorem dX0_topUp_28 : decode cX0_topUp 28 = .ok (.arraylength, 1) := by decide +kernel
theorem dX0_topUp_29 : decode cX0_topUp 29 = .ok (.if_icmp .gt 93, 3) := by decide +kernel
theorem dX0_topUp_32 : decode cX0_topUp 32 = .ok (.aload_n 0, 1) := by decide +kernel
theorem dX0_topUp_33 : decode cX0_topUp 33 = .ok (.getfield 15, 3) := by decide +kernel
theorem dX0_topUp_36 : decode cX0_topUp 36 = .ok (.iconst 1, 1) := by decide +kernel
theorem dX0_topUp_37 : decode cX0_topUp 37 = .ok (.isub, 1) := by decide +kernel
theorem dX0_topUp_38 : decode cX0_topUp 38 = .ok (.istore_n 3, 1) := by decide +kernel
theorem dX0_topUp_39 : decode cX0_topUp 39 = .ok (.sipush 2250, 3) := by decide +kernel
theorem dX0_topUp_42 : decode cX0_topUp 42 = .ok (.aload_n 0, 1) := by decide +kernel
theorem dX0_topUp_43 : decode cX0_topUp 43 = .ok (.getfield 9, 3) := by decide +kernel
theorem dX0_topUp_46 : decode cX0_topUp 46 = .ok (.iload_n 1, 1) := by decide +kernel
theorem dX0_topUp_47 : decode cX0_topUp 47 = .ok (.iaload, 1) := by decide +kernel
theorem dX0_topUp_48 : decode cX0_topUp 48 = .ok (.isub, 1) := by decide +kernel
theorem dX0_topUp_49 : decode cX0_topUp 49 = .ok (.aload_n 0, 1) := by decide +kernel
theorem dX0_topUp_50 : decode cX0_topUp 50 = .ok (.getfield 9, 3) := by decide +kernel
theorem dX0_topUp_53 : decode cX0_topUp 53 = .ok (.iload_n 3, 1) := by decide +kernel
theorem dX0_topUp_54 : decode cX0_topUp 54 = .ok (.iaload, 1) := by decide +kernel
theorem dX0_topUp_55 : decode cX0_topUp 55 = .ok (.invokestatic 34, 3) := by decide +kernel
theorem dX0_topUp_58 : decode cX0_topUp 58 = .ok (.istore 4, 2) := by decide +kernel
theorem dX0_topUp_60 : decode cX0_topUp 60 = .ok (.aload_n 0, 1) := by decide +kernel
theorem dX0_topUp_61 : decode cX0_topUp 61 = .ok (.getfield 9, 3) := by decide +kernel
theorem dX0_topUp_64 : decode cX0_topUp 64 = .ok (.iload_n 1, 1) := by decide +kernel
theorem dX0_topUp_65 : decode cX0_topUp 65 = .ok (.dup2, 1) := by decide +kernel
theorem dX0_topUp_66 : decode cX0_topUp 66 = .ok (.iaload, 1) := by decide +kernel
theorem dX0_topUp_67 : decode cX0_topUp 67 = .ok (.iload 4, 2) := by decide +kernel
theorem dX0_topUp_69 : decode cX0_topUp 69 = .ok (.iadd, 1) := by decide +kernel
theorem dX0_topUp_70 : decode cX0_topUp 70 = .ok (.iastore, 1) := by decide +kernel
theorem dX0_topUp_71 : decode cX0_topUp 71 = .ok (.aload_n 0, 1) := by decide +kernel
theorem dX0_topUp_72 : decode cX0_topUp 72 = .ok (.getfield 9, 3) := by decide +kernel
theorem dX0_topUp_75 : decode cX0_topUp 75 = .ok (.iload_n 3, 1) := by decide +kernel
theorem dX0_topUp_76 : decode cX0_topUp 76 = .ok (.dup2, 1) := by decide +kernel
theorem dX0_topUp_77 : decode cX0_topUp 77 = .ok (.iaload, 1) := by decide +kernel
theorem dX0_topUp_78 : decode cX0_topUp 78 = .ok (.iload 4, 2) := by decide +kernel
theorem dX0_topUp_80 : decode cX0_topUp 80 = .ok (.isub, 1) := by decide +kernel
theorem dX0_topUp_81 : decode cX0_topUp 81 = .ok (.iastore, 1) := by decide +kernel
theorem dX0_topUp_82 : decode cX0_topUp 82 = .ok (.aload_n 0, 1) := by decide +kernel
theorem dX0_topUp_83 : decode cX0_topUp 83 = .ok (.getfield 9, 3) := by decide +kernel
theorem dX0_topUp_86 : decode cX0_topUp 86 = .ok (.iload_n 3, 1) := by decide +kernel
theorem dX0_topUp_87 : decode cX0_topUp 87 = .ok (.iaload, 1) := by decide +kernel
theorem dX0_topUp_88 : decode cX0_topUp 88 = .ok (.ifCond .ne 13, 3) := by decide +kernel
theorem dX0_topUp_91 : decode cX0_topUp 91 = .ok (.aload_n 0, 1) := by decide +kernel
theorem dX0_topUp_92 : decode cX0_topUp 92 = .ok (.dup, 1) := by decide +kernel
theorem dX0_topUp_93 : decode cX0_topUp 93 = .ok (.getfield 15, 3) := by decide +kernel
theorem dX0_topUp_96 : decode cX0_topUp 96 = .ok (.iconst 1, 1) := by decide +kernel
theorem dX0_topUp_97 : decode cX0_topUp 97 = .ok (.isub, 1) := by decide +kernel
theorem dX0_topUp_98 : decode cX0_topUp 98 = .ok (.putfield 15, 3) := by decide +kernel
theorem dX0_topUp_101 : decode cX0_topUp 101 = .ok (.aload_n 0, 1) := by decide +kernel
theorem dX0_topUp_102 : decode cX0_topUp 102 = .ok (.getfield 9, 3) := by decide +kernel
theorem dX0_topUp_105 : decode cX0_topUp 105 = .ok (.iload_n 1, 1) := by decide +kernel
theorem dX0_topUp_106 : decode cX0_topUp 106 = .ok (.iaload, 1) := by decide +kernel
theorem dX0_topUp_107 : decode cX0_topUp 107 = .ok (.sipush 2250, 3) := by decide +kernel
theorem dX0_topUp_110 : decode cX0_topUp 110 = .ok (.if_icmp .lt 6, 3) := by decide +kernel
theorem dX0_topUp_113 : decode cX0_topUp 113 = .ok (.iinc 1 1, 3) := by decide +kernel
theorem dX0_topUp_116 : decode cX0_topUp 116 = .ok (.iinc 2 1, 3) := by decide +kernel
theorem dX0_topUp_119 : decode cX0_topUp 119 = .ok (.goto (-115), 3) := by decide +kernel
theorem dX0_topUp_122 : decode cX0_topUp 122 = .ok (.return_, 1) := by decide +kernel
theorem dX1_init_0 : decode cX1_init 0 = .ok (.aload_n 0, 1) := by decide +kernel
theorem dX1_init_1 : decode cX1_init 1 = .ok (.invokespecial 3, 3) := by decide +kernel
theorem dX1_init_4 : decode cX1_init 4 = .ok (.aload_n 0, 1) := by decide +kernel
theorem dX1_init_5 : decode cX1_init 5 = .ok (.bipush 72, 2) := by decide +kernel
theorem dX1_init_7 : decode cX1_init 7 = .ok (.newarray .int, 2) := by decide +kernel
theorem dX1_init_9 : decode cX1_init 9 = .ok (.putfield 9, 3) := by decide +kernel
theorem dX1_init_12 : decode cX1_init 12 = .ok (.return_, 1) := by decide +kernel
theorem dX1_copyBook_0 : decode cX1_copyBook 0 = .ok (.aload_n 1, 1) := by decide +kernel
theorem dX1_copyBook_1 : decode cX1_copyBook 1 = .ok (.getfield 9, 3) := by decide +kernel
theorem dX1_copyBook_4 : decode cX1_copyBook 4 = .ok (.aload_n 0, 1) := by decide +kernel
theorem dX1_copyBook_5 : decode cX1_copyBook 5 = .ok (.getfield 9, 3) := by decide +kernel
theorem dX1_copyBook_8 : decode cX1_copyBook 8 = .ok (.invokestatic 15, 3) := by decide +kernel
theorem dX1_copyBook_11 : decode cX1_copyBook 11 = .ok (.aload_n 0, 1) := by decide +kernel
theorem dX1_copyBook_12 : decode cX1_copyBook 12 = .ok (.aload_n 1, 1) := by decide +kernel
theorem dX1_copyBook_13 : decode cX1_copyBook 13 = .ok (.getfield 19, 3) := by decide +kernel
theorem dX1_copyBook_16 : decode cX1_copyBook 16 = .ok (.putfield 19, 3) := by decide +kernel
theorem dX1_copyBook_19 : decode cX1_copyBook 19 = .ok (.return_, 1) := by decide +kernel
theorem dX1_write_0 : decode cX1_write 0 = .ok (.aload_n 0, 1) := by decide +kernel
theorem dX1_write_1 : decode cX1_write 1 = .ok (.getfield 9, 3) := by decide +kernel
theorem dX1_write_4 : decode cX1_write 4 = .ok (.arraylength, 1) := by decide +kernel
theorem dX1_write_5 : decode cX1_write 5 = .ok (.iconst 1, 1) := by decide +kernel
theorem dX1_write_6 : decode cX1_write 6 = .ok (.isub, 1) := by decide +kernel
theorem dX1_write_7 : decode cX1_write 7 = .ok (.istore 7, 2) := by decide +kernel
theorem dX1_write_9 : decode cX1_write 9 = .ok (.iload 7, 2) := by decide +kernel
theorem dX1_write_11 : decode cX1_write 11 = .ok (.bipush 6, 2) := by decide +kernel
theorem dX1_write_13 : decode cX1_write 13 = .ok (.if_icmp .lt 26, 3) := by decide +kernel
theorem dX1_write_16 : decode cX1_write 16 = .ok (.aload_n 0, 1) := by decide +kernel
theorem dX1_write_17 : decode cX1_write 17 = .ok (.getfield 9, 3) := by decide +kernel
theorem dX1_write_20 : decode cX1_write 20 = .ok (.iload 7, 2) := by decide +kernel
theorem dX1_write_22 : decode cX1_write 22 = .ok (.aload_n 0, 1) := by decide +kernel
theorem dX1_write_23 : decode cX1_write 23 = .ok (.getfield 9, 3) := by decide +kernel
theorem dX1_write_26 : decode cX1_write 26 = .ok (.iload 7, 2) := by decide +kernel
theorem dX1_write_28 : decode cX1_write 28 = .ok (.bipush 6, 2) := by decide +kernel
theorem dX1_write_30 : decode cX1_write 30 = .ok (.isub, 1) := by decide +kernel
theorem dX1_write_31 : decode cX1_write 31 = .ok (.iaload, 1) := by decide +kernel
theorem dX1_write_32 : decode cX1_write 32 = .ok (.iastore, 1) := by decide +kernel
theorem dX1_write_33 : decode cX1_write 33 = .ok (.iinc 7 (-1), 3) := by decide +kernel
theorem dX1_write_36 : decode cX1_write 36 = .ok (.goto (-27), 3) := by decide +kernel
theorem dX1_write_39 : decode cX1_write 39 = .ok (.aload_n 0, 1) := by decide +kernel
theorem dX1_write_40 : decode cX1_write 40 = .ok (.getfield 9, 3) := by decide +kernel
theorem dX1_write_43 : decode cX1_write 43 = .ok (.iconst 0, 1) := by decide +kernel
theorem dX1_write_44 : decode cX1_write 44 = .ok (.iload_n 1, 1) := by decide +kernel
theorem dX1_write_45 : decode cX1_write 45 = .ok (.iastore, 1) := by decide +kernel
theorem dX1_write_46 : decode cX1_write 46 = .ok (.aload_n 0, 1) := by decide +kernel
theorem dX1_write_47 : decode cX1_write 47 = .ok (.getfield 9, 3) := by decide +kernel
theorem dX1_write_50 : decode cX1_write 50 = .ok (.iconst 1, 1) := by decide +kernel
theorem dX1_write_51 : decode cX1_write 51 = .ok (.iload_n 2, 1) := by decide +kernel
theorem dX1_write_52 : decode cX1_write 52 = .ok (.iastore, 1) := by decide +kernel
theorem dX1_write_53 : decode cX1_write 53 = .ok (.aload_n 0, 1) := by decide +kernel
theorem dX1_write_54 : decode cX1_write 54 = .ok (.getfield 9, 3) := by decide +kernel
theorem dX1_write_57 : decode cX1_write 57 = .ok (.iconst 2, 1) := by decide +kernel
theorem dX1_write_58 : decode cX1_write 58 = .ok (.iload_n 3, 1) := by decide +kernel
theorem dX1_write_59 : decode cX1_write 59 = .ok (.iastore, 1) := by decide +kernel
theorem dX1_write_60 : decode cX1_write 60 = .ok (.aload_n 0, 1) := by decide +kernel
theorem dX1_write_61 : decode cX1_write 61 = .ok (.getfield 9, 3) := by decide +kernel
theorem dX1_write_64 : decode cX1_write 64 = .ok (.iconst 3, 1) := by decide +kernel
theorem dX1_write_65 : decode cX1_write 65 = .ok (.iload 4, 2) := by decide +kernel
theorem dX1_write_67 : decode cX1_write 67 = .ok (.iastore, 1) := by decide +kernel
theorem dX1_write_68 : decode cX1_write 68 = .ok (.aload_n 0, 1) := by decide +kernel
theorem dX1_write_69 : decode cX1_write 69 = .ok (.getfield 9, 3) := by decide +kernel
theorem dX1_write_72 : decode cX1_write 72 = .ok (.iconst 4, 1) := by decide +kernel
theorem dX1_write_73 : decode cX1_write 73 = .ok (.iload 5, 2) := by decide +kernel
theorem dX1_write_75 : decode cX1_write 75 = .ok (.iastore, 1) := by decide +kernel
theorem dX1_write_76 : decode cX1_write 76 = .ok (.aload_n 0, 1) := by decide +kernel
theorem dX1_write_77 : decode cX1_write 77 = .ok (.getfield 9, 3) := by decide +kernel
theorem dX1_write_80 : decode cX1_write 80 = .ok (.iconst 5, 1) := by decide +kernel
theorem dX1_write_81 : decode cX1_write 81 = .ok (.iload 6, 2) := by decide +kernel
theorem dX1_write_83 : decode cX1_write 83 = .ok (.iastore, 1) := by decide +kernel
theorem dX1_write_84 : decode cX1_write 84 = .ok (.aload_n 0, 1) := by decide +kernel
theorem dX1_write_85 : decode cX1_write 85 = .ok (.getfield 19, 3) := by decide +kernel
theorem dX1_write_88 : decode cX1_write 88 = .ok (.bipush 12, 2) := by decide +kernel
theorem dX1_write_90 : decode cX1_write 90 = .ok (.if_icmp .ge 13, 3) := by decide +kernel
theorem dX1_write_93 : decode cX1_write 93 = .ok (.aload_n 0, 1) := by decide +kernel
theorem dX1_write_94 : decode cX1_write 94 = .ok (.dup, 1) := by decide +kernel
theorem dX1_write_95 : decode cX1_write 95 = .ok (.getfield 19, 3) := by decide +kernel
theorem dX1_write_98 : decode cX1_write 98 = .ok (.iconst 1, 1) := by decide +kernel
theorem dX1_write_99 : decode cX1_write 99 = .ok (.iadd, 1) := by decide +kernel
theorem dX1_write_100 : decode cX1_write 100 = .ok (.putfield 19, 3) := by decide +kernel
theorem dX1_write_103 : decode cX1_write 103 = .ok (.return_, 1) := by decide +kernel
theorem dX1_cell_0 : decode cX1_cell 0 = .ok (.iload_n 1, 1) := by decide +kernel
theorem dX1_cell_1 : decode cX1_cell 1 = .ok (.ifCond .lt 12, 3) := by decide +kernel
theorem dX1_cell_4 : decode cX1_cell 4 = .ok (.iload_n 2, 1) := by decide +kernel
theorem dX1_cell_5 : decode cX1_cell 5 = .ok (.iconst 0, 1) := by decide +kernel
theorem dX1_cell_6 : decode cX1_cell 6 = .ok (.iconst 5, 1) := by decide +kernel
theorem dX1_cell_7 : decode cX1_cell 7 = .ok (.invokestatic 23, 3) := by decide +kernel
theorem dX1_cell_10 : decode cX1_cell 10 = .ok (.ifCond .ne 6, 3) := by decide +kernel
theorem dX1_cell_13 : decode cX1_cell 13 = .ok (.ldc 27, 2) := by decide +kernel
theorem dX1_cell_15 : decode cX1_cell 15 = .ok (.ireturn, 1) := by decide +kernel
theorem dX1_cell_16 : decode cX1_cell 16 = .ok (.iload_n 1, 1) := by decide +kernel
theorem dX1_cell_17 : decode cX1_cell 17 = .ok (.aload_n 0, 1) := by decide +kernel
theorem dX1_cell_18 : decode cX1_cell 18 = .ok (.getfield 19, 3) := by decide +kernel
theorem dX1_cell_21 : decode cX1_cell 21 = .ok (.if_icmp .ge 9, 3) := by decide +kernel
theorem dX1_cell_24 : decode cX1_cell 24 = .ok (.iload_n 1, 1) := by decide +kernel
theorem dX1_cell_25 : decode cX1_cell 25 = .ok (.bipush 12, 2) := by decide +kernel
theorem dX1_cell_27 : decode cX1_cell 27 = .ok (.if_icmp .lt 6, 3) := by decide +kernel
theorem dX1_cell_30 : decode cX1_cell 30 = .ok (.ldc 28, 2) := by decide +kernel
theorem dX1_cell_32 : decode cX1_cell 32 = .ok (.ireturn, 1) := by decide +kernel
theorem dX1_cell_33 : decode cX1_cell 33 = .ok (.aload_n 0, 1) := by decide +kernel
theorem dX1_cell_34 : decode cX1_cell 34 = .ok (.getfield 9, 3) := by decide +kernel
theorem dX1_cell_37 : decode cX1_cell 37 = .ok (.iload_n 1, 1) := by decide +kernel
theorem dX1_cell_38 : decode cX1_cell 38 = .ok (.bipush 6, 2) := by decide +kernel
theorem dX1_cell_40 : decode cX1_cell 40 = .ok (.imul, 1) := by decide +kernel
theorem dX1_cell_41 : decode cX1_cell 41 = .ok (.iload_n 2, 1) := by decide +kernel
theorem dX1_cell_42 : decode cX1_cell 42 = .ok (.iadd, 1) := by decide +kernel
theorem dX1_cell_43 : decode cX1_cell 43 = .ok (.iaload, 1) := by decide +kernel
theorem dX1_cell_44 : decode cX1_cell 44 = .ok (.ireturn, 1) := by decide +kernel
theorem dX2_init_0 : decode cX2_init 0 = .ok (.aload_n 0, 1) := by decide +kernel
theorem dX2_init_1 : decode cX2_init 1 = .ok (.invokespecial 3, 3) := by decide +kernel
theorem dX2_init_4 : decode cX2_init 4 = .ok (.aload_n 0, 1) := by decide +kernel
theorem dX2_init_5 : decode cX2_init 5 = .ok (.bipush 6, 2) := by decide +kernel
theorem dX2_init_7 : decode cX2_init 7 = .ok (.anewarray 9, 3) := by decide +kernel
theorem dX2_init_10 : decode cX2_init 10 = .ok (.putfield 11, 3) := by decide +kernel
theorem dX2_init_13 : decode cX2_init 13 = .ok (.aload_n 0, 1) := by decide +kernel
theorem dX2_init_14 : decode cX2_init 14 = .ok (.bipush 6, 2) := by decide +kernel
theorem dX2_init_16 : decode cX2_init 16 = .ok (.newarray .int, 2) := by decide +kernel
theorem dX2_init_18 : decode cX2_init 18 = .ok (.putfield 17, 3) := by decide +kernel
theorem dX2_init_21 : decode cX2_init 21 = .ok (.aload_n 0, 1) := by decide +kernel
theorem dX2_init_22 : decode cX2_init 22 = .ok (.new 21, 3) := by decide +kernel
theorem dX2_init_25 : decode cX2_init 25 = .ok (.dup, 1) := by decide +kernel
theorem dX2_init_26 : decode cX2_init 26 = .ok (.invokespecial 23, 3) := by decide +kernel
theorem dX2_init_29 : decode cX2_init 29 = .ok (.putfield 24, 3) := by decide +kernel
theorem dX2_init_32 : decode cX2_init 32 = .ok (.aload_n 0, 1) := by decide +kernel
theorem dX2_init_33 : decode cX2_init 33 = .ok (.new 28, 3) := by decide +kernel
theorem dX2_init_36 : decode cX2_init 36 = .ok (.dup, 1) := by decide +kernel
theorem dX2_init_37 : decode cX2_init 37 = .ok (.invokespecial 30, 3) := by decide +kernel
theorem dX2_init_40 : decode cX2_init 40 = .ok (.putfield 31, 3) := by decide +kernel
theorem dX2_init_43 : decode cX2_init 43 = .ok (.aload_n 0, 1) := by decide +kernel
theorem dX2_init_44 : decode cX2_init 44 = .ok (.bipush 10, 2) := by decide +kernel
theorem dX2_init_46 : decode cX2_init 46 = .ok (.putfield 35, 3) := by decide +kernel
theorem dX2_init_49 : decode cX2_init 49 = .ok (.aload_n 0, 1) := by decide +kernel
theorem dX2_init_50 : decode cX2_init 50 = .ok (.bipush 12, 2) := by decide +kernel
theorem dX2_init_52 : decode cX2_init 52 = .ok (.putfield 39, 3) := by decide +kernel
theorem dX2_init_55 : decode cX2_init 55 = .ok (.iconst 0, 1) := by decide +kernel
theorem dX2_init_56 : decode cX2_init 56 = .ok (.istore_n 1, 1) := by decide +kernel
theorem dX2_init_57 : decode cX2_init 57 = .ok (.iload_n 1, 1) := by decide +kernel
theorem dX2_init_58 : decode cX2_init 58 = .ok (.aload_n 0, 1) := by decide +kernel
theorem dX2_init_59 : decode cX2_init 59 = .ok (.getfield 11, 3) := by decide +kernel
theorem dX2_init_62 : decode cX2_init 62 = .ok (.arraylength, 1) := by decide +kernel
theorem dX2_init_63 : decode cX2_init 63 = .ok (.if_icmp .ge 22, 3) := by decide +kernel
theorem dX2_init_66 : decode cX2_init 66 = .ok (.aload_n 0, 1) := by decide +kernel
theorem dX2_init_67 : decode cX2_init 67 = .ok (.getfield 11, 3) := by decide +kernel
theorem dX2_init_70 : decode cX2_init 70 = .ok (.iload_n 1, 1) := by decide +kernel
theorem dX2_init_71 : decode cX2_init 71 = .ok (.new 9, 3) := by decide +kernel
theorem dX2_init_74 : decode cX2_init 74 = .ok (.dup, 1) := by decide +kernel
theorem dX2_init_75 : decode cX2_init 75 = .ok (.invokespecial 42, 3) := by decide +kernel
theorem dX2_init_78 : decode cX2_init 78 = .ok (.aastore, 1) := by decide +kernel
theorem dX2_init_79 : decode cX2_init 79 = .ok (.iinc 1 1, 3) := by decide +kernel
theorem dX2_init_82 : decode cX2_init 82 = .ok (.goto (-25), 3) := by decide +kernel
theorem dX2_init_85 : decode cX2_init 85 = .ok (.return_, 1) := by decide +kernel
theorem dX2_copyEstate_0 : decode cX2_copyEstate 0 = .ok (.iconst 0, 1) := by decide +kernel
theorem dX2_copyEstate_1 : decode cX2_copyEstate 1 = .ok (.istore_n 2, 1) := by decide +kernel
theorem dX2_copyEstate_2 : decode cX2_copyEstate 2 = .ok (.iload_n 2, 1) := by decide +kernel
theorem dX2_copyEstate_3 : decode cX2_copyEstate 3 = .ok (.aload_n 0, 1) := by decide +kernel
theorem dX2_copyEstate_4 : decode cX2_copyEstate 4 = .ok (.getfield 11, 3) := by decide +kernel
theorem dX2_copyEstate_7 : decode cX2_copyEstate 7 = .ok (.arraylength, 1) := by decide +kernel
theorem dX2_copyEstate_8 : decode cX2_copyEstate 8 = .ok (.if_icmp .ge 48, 3) := by decide +kernel
theorem dX2_copyEstate_11 : decode cX2_copyEstate 11 = .ok (.iload_n 2, 1) := by decide +kernel
theorem dX2_copyEstate_12 : decode cX2_copyEstate 12 = .ok (.aload_n 1, 1) := by decide +kernel
theorem dX2_copyEstate_13 : decode cX2_copyEstate 13 = .ok (.getfield 11, 3) := by decide +kernel
theorem dX2_copyEstate_16 : decode cX2_copyEstate 16 = .ok (.arraylength, 1) := by decide +kernel
theorem dX2_copyEstate_17 : decode cX2_copyEstate 17 = .ok (.if_icmp .ge 39, 3) := by decide +kernel
theorem dX2_copyEstate_20 : decode cX2_copyEstate 20 = .ok (.aload_n 1, 1) := by decide +kernel
theorem dX2_copyEstate_21 : decode cX2_copyEstate 21 = .ok (.getfield 11, 3) := by decide +kernel
theorem dX2_copyEstate_24 : decode cX2_copyEstate 24 = .ok (.iload_n 2, 1) := by decide +kernel
theorem dX2_copyEstate_25 : decode cX2_copyEstate 25 = .ok (.aaload, 1) := by decide +kernel
theorem dX2_copyEstate_26 : decode cX2_copyEstate 26 = .ok (.astore_n 3, 1) := by decide +kernel
theorem dX2_copyEstate_27 : decode cX2_copyEstate 27 = .ok (.aload_n 0, 1) := by decide +kernel
theorem dX2_copyEstate_28 : decode cX2_copyEstate 28 = .ok (.getfield 11, 3) := by decide +kernel
theorem dX2_copyEstate_31 : decode cX2_copyEstate 31 = .ok (.iload_n 2, 1) := by decide +kernel
theorem dX2_copyEstate_32 : decode cX2_copyEstate 32 = .ok (.aaload, 1) := by decide +kernel
theorem dX2_copyEstate_33 : decode cX2_copyEstate 33 = .ok (.astore 4, 2) := by decide +kernel
theorem dX2_copyEstate_35 : decode cX2_copyEstate 35 = .ok (.aload_n 3, 1) := by decide +kernel
theorem dX2_copyEstate_36 : decode cX2_copyEstate 36 = .ok (.ifnull 14, 3) := by decide +kernel
theorem dX2_copyEstate_39 : decode cX2_copyEstate 39 = .ok (.aload 4, 2) := by decide +kernel
theorem dX2_copyEstate_41 : decode cX2_copyEstate 41 = .ok (.ifnull 9, 3) := by decide +kernel
theorem dX2_copyEstate_44 : decode cX2_copyEstate 44 = .ok (.aload 4, 2) := by decide +kernel
theorem dX2_copyEstate_46 : decode cX2_copyEstate 46 = .ok (.aload_n 3, 1) := by decide +kernel
theorem dX2_copyEstate_47 : decode cX2_copyEstate 47 = .ok (.invokevirtual 43, 3) := by decide +kernel
theorem dX2_copyEstate_50 : decode cX2_copyEstate 50 = .ok (.iinc 2 1, 3) := by decide +kernel
theorem dX2_copyEstate_53 : decode cX2_copyEstate 53 = .ok (.goto (-51), 3) := by decide +kernel
theorem dX2_copyEstate_56 : decode cX2_copyEstate 56 = .ok (.aload_n 1, 1) := by decide +kernel
theorem dX2_copyEstate_57 : decode cX2_copyEstate 57 = .ok (.getfield 17, 3) := by decide +kernel
theorem dX2_copyEstate_60 : decode cX2_copyEstate 60 = .ok (.aload_n 0, 1) := by decide +kernel
theorem dX2_copyEstate_61 : decode cX2_copyEstate 61 = .ok (.getfield 17, 3) := by decide +kernel
theorem dX2_copyEstate_64 : decode cX2_copyEstate 64 = .ok (.invokestatic 47, 3) := by decide +kernel
theorem dX2_copyEstate_67 : decode cX2_copyEstate 67 = .ok (.aload_n 0, 1) := by decide +kernel
theorem dX2_copyEstate_68 : decode cX2_copyEstate 68 = .ok (.getfield 24, 3) := by decide +kernel
theorem dX2_copyEstate_71 : decode cX2_copyEstate 71 = .ok (.aload_n 1, 1) := by decide +kernel
theorem dX2_copyEstate_72 : decode cX2_copyEstate 72 = .ok (.getfield 24, 3) := by decide +kernel
theorem dX2_copyEstate_75 : decode cX2_copyEstate 75 = .ok (.invokevirtual 51, 3) := by decide +kernel
theorem dX2_copyEstate_78 : decode cX2_copyEstate 78 = .ok (.aload_n 0, 1) := by decide +kernel
theorem dX2_copyEstate_79 : decode cX2_copyEstate 79 = .ok (.aload_n 1, 1) := by decide +kernel
theorem dX2_copyEstate_80 : decode cX2_copyEstate 80 = .ok (.getfield 55, 3) := by decide +kernel
theorem dX2_copyEstate_83 : decode cX2_copyEstate 83 = .ok (.putfield 55, 3) := by decide +kernel
theorem dX2_copyEstate_86 : decode cX2_copyEstate 86 = .ok (.aload_n 0, 1) := by decide +kernel
theorem dX2_copyEstate_87 : decode cX2_copyEstate 87 = .ok (.aload_n 1, 1) := by decide +kernel
theorem dX2_copyEstate_88 : decode cX2_copyEstate 88 = .ok (.getfield 58, 3) := by decide +kernel
theorem dX2_copyEstate_91 : decode cX2_copyEstate 91 = .ok (.putfield 58, 3) := by decide +kernel
theorem dX2_copyEstate_94 : decode cX2_copyEstate 94 = .ok (.aload_n 0, 1) := by decide +kernel
theorem dX2_copyEstate_95 : decode cX2_copyEstate 95 = .ok (.aload_n 1, 1) := by decide +kernel
theorem dX2_copyEstate_96 : decode cX2_copyEstate 96 = .ok (.getfield 61, 3) := by decide +kernel
theorem dX2_copyEstate_99 : decode cX2_copyEstate 99 = .ok (.putfield 61, 3) := by decide +kernel
theorem dX2_copyEstate_102 : decode cX2_copyEstate 102 = .ok (.aload_n 0, 1) := by decide +kernel
theorem dX2_copyEstate_103 : decode cX2_copyEstate 103 = .ok (.aload_n 1, 1) := by decide +kernel
theorem dX2_copyEstate_104 : decode cX2_copyEstate 104 = .ok (.getfield 35, 3) := by decide +kernel
theorem dX2_copyEstate_107 : decode cX2_copyEstate 107 = .ok (.putfield 35, 3) := by decide +kernel
theorem dX2_copyEstate_110 : decode cX2_copyEstate 110 = .ok (.aload_n 0, 1) := by decide +kernel
theorem dX2_copyEstate_111 : decode cX2_copyEstate 111 = .ok (.aload_n 1, 1) := by decide +kernel
theorem dX2_copyEstate_112 : decode cX2_copyEstate 112 = .ok (.getfield 39, 3) := by decide +kernel
theorem dX2_copyEstate_115 : decode cX2_copyEstate 115 = .ok (.putfield 39, 3) := by decide +kernel
theorem dX2_copyEstate_118 : decode cX2_copyEstate 118 = .ok (.aload_n 0, 1) := by decide +kernel
theorem dX2_copyEstate_119 : decode cX2_copyEstate 119 = .ok (.aload_n 1, 1) := by decide +kernel
theorem dX2_copyEstate_120 : decode cX2_copyEstate 120 = .ok (.getfield 64, 3) := by decide +kernel
theorem dX2_copyEstate_123 : decode cX2_copyEstate 123 = .ok (.putfield 64, 3) := by decide +kernel
theorem dX2_copyEstate_126 : decode cX2_copyEstate 126 = .ok (.aload_n 0, 1) := by decide +kernel
theorem dX2_copyEstate_127 : decode cX2_copyEstate 127 = .ok (.aload_n 1, 1) := by decide +kernel
theorem dX2_copyEstate_128 : decode cX2_copyEstate 128 = .ok (.getfield 67, 3) := by decide +kernel
theorem dX2_copyEstate_131 : decode cX2_copyEstate 131 = .ok (.putfield 67, 3) := by decide +kernel
theorem dX2_copyEstate_134 : decode cX2_copyEstate 134 = .ok (.aload_n 0, 1) := by decide +kernel
theorem dX2_copyEstate_135 : decode cX2_copyEstate 135 = .ok (.aload_n 1, 1) := by decide +kernel
theorem dX2_copyEstate_136 : decode cX2_copyEstate 136 = .ok (.getfield 70, 3) := by decide +kernel
theorem dX2_copyEstate_139 : decode cX2_copyEstate 139 = .ok (.putfield 70, 3) := by decide +kernel
theorem dX2_copyEstate_142 : decode cX2_copyEstate 142 = .ok (.return_, 1) := by decide +kernel
theorem dX2_lotAt_0 : decode cX2_lotAt 0 = .ok (.iload_n 1, 1) := by decide +kernel
theorem dX2_lotAt_1 : decode cX2_lotAt 1 = .ok (.ifCond .lt 29, 3) := by decide +kernel
theorem dX2_lotAt_4 : decode cX2_lotAt 4 = .ok (.iload_n 1, 1) := by decide +kernel
theorem dX2_lotAt_5 : decode cX2_lotAt 5 = .ok (.aload_n 0, 1) := by decide +kernel
theorem dX2_lotAt_6 : decode cX2_lotAt 6 = .ok (.getfield 55, 3) := by decide +kernel
theorem dX2_lotAt_9 : decode cX2_lotAt 9 = .ok (.if_icmp .ge 21, 3) := by decide +kernel
theorem dX2_lotAt_12 : decode cX2_lotAt 12 = .ok (.iload_n 1, 1) := by decide +kernel
theorem dX2_lotAt_13 : decode cX2_lotAt 13 = .ok (.aload_n 0, 1) := by decide +kernel
theorem dX2_lotAt_14 : decode cX2_lotAt 14 = .ok (.getfield 11, 3) := by decide +kernel
theorem dX2_lotAt_17 : decode cX2_lotAt 17 = .ok (.arraylength, 1) := by decide +kernel
theorem dX2_lotAt_18 : decode cX2_lotAt 18 = .ok (.if_icmp .ge 12, 3) := by decide +kernel
theorem dX2_lotAt_21 : decode cX2_lotAt 21 = .ok (.aload_n 0, 1) := by decide +kernel
theorem dX2_lotAt_22 : decode cX2_lotAt 22 = .ok (.getfield 11, 3) := by decide +kernel
theorem dX2_lotAt_25 : decode cX2_lotAt 25 = .ok (.iload_n 1, 1) := by decide +kernel
theorem dX2_lotAt_26 : decode cX2_lotAt 26 = .ok (.aaload, 1) := by decide +kernel
theorem dX2_lotAt_27 : decode cX2_lotAt 27 = .ok (.goto 4, 3) := by decide +kernel
theorem dX2_lotAt_30 : decode cX2_lotAt 30 = .ok (.aconst_null, 1) := by decide +kernel
theorem dX2_lotAt_31 : decode cX2_lotAt 31 = .ok (.areturn, 1) := by decide +kernel
theorem dX2_hasBuyer_0 : decode cX2_hasBuyer 0 = .ok (.iload_n 1, 1) := by decide +kernel
theorem dX2_hasBuyer_1 : decode cX2_hasBuyer 1 = .ok (.ifCond .lt 24, 3) := by decide +kernel
theorem dX2_hasBuyer_4 : decode cX2_hasBuyer 4 = .ok (.iload_n 1, 1) := by decide +kernel
theorem dX2_hasBuyer_5 : decode cX2_hasBuyer 5 = .ok (.aload_n 0, 1) := by decide +kernel
theorem dX2_hasBuyer_6 : decode cX2_hasBuyer 6 = .ok (.getfield 58, 3) := by decide +kernel
theorem dX2_hasBuyer_9 : decode cX2_hasBuyer 9 = .ok (.if_icmp .ge 16, 3) := by decide +kernel
theorem dX2_hasBuyer_12 : decode cX2_hasBuyer 12 = .ok (.iload_n 1, 1) := by decide +kernel
theorem dX2_hasBuyer_13 : decode cX2_hasBuyer 13 = .ok (.aload_n 0, 1) := by decide +kernel
theorem dX2_hasBuyer_14 : decode cX2_hasBuyer 14 = .ok (.getfield 17, 3) := by decide +kernel
theorem dX2_hasBuyer_17 : decode cX2_hasBuyer 17 = .ok (.arraylength, 1) := by decide +kernel
theorem dX2_hasBuyer_18 : decode cX2_hasBuyer 18 = .ok (.if_icmp .ge 7, 3) := by decide +kernel
theorem dX2_hasBuyer_21 : decode cX2_hasBuyer 21 = .ok (.iconst 1, 1) := by decide +kernel
theorem dX2_hasBuyer_22 : decode cX2_hasBuyer 22 = .ok (.goto 4, 3) := by decide +kernel
theorem dX2_hasBuyer_25 : decode cX2_hasBuyer 25 = .ok (.iconst 0, 1) := by decide +kernel
theorem dX2_hasBuyer_26 : decode cX2_hasBuyer 26 = .ok (.ireturn, 1) := by decide +kernel
theorem dX2_payEstate_0 : decode cX2_payEstate 0 = .ok (.aload_n 0, 1) := by decide +kernel
theorem dX2_payEstate_1 : decode cX2_payEstate 1 = .ok (.iload_n 1, 1) := by decide +kernel
theorem dX2_payEstate_2 : decode cX2_payEstate 2 = .ok (.invokevirtual 73, 3) := by decide +kernel
theorem dX2_payEstate_5 : decode cX2_payEstate 5 = .ok (.ifCond .eq 23, 3) := by decide +kernel
theorem dX2_payEstate_8 : decode cX2_payEstate 8 = .ok (.aload_n 0, 1) := by decide +kernel
theorem dX2_payEstate_9 : decode cX2_payEstate 9 = .ok (.getfield 17, 3) := by decide +kernel
theorem dX2_payEstate_12 : decode cX2_payEstate 12 = .ok (.iload_n 1, 1) := by decide +kernel
theorem dX2_payEstate_13 : decode cX2_payEstate 13 = .ok (.dup2, 1) := by decide +kernel
theorem dX2_payEstate_14 : decode cX2_payEstate 14 = .ok (.iaload, 1) := by decide +kernel
theorem dX2_payEstate_15 : decode cX2_payEstate 15 = .ok (.iload_n 2, 1) := by decide +kernel
theorem dX2_payEstate_16 : decode cX2_payEstate 16 = .ok (.isub, 1) := by decide +kernel
theorem dX2_payEstate_17 : decode cX2_payEstate 17 = .ok (.iastore, 1) := by decide +kernel
theorem dX2_payEstate_18 : decode cX2_payEstate 18 = .ok (.aload_n 0, 1) := by decide +kernel
theorem dX2_payEstate_19 : decode cX2_payEstate 19 = .ok (.dup, 1) := by decide +kernel
theorem dX2_payEstate_20 : decode cX2_payEstate 20 = .ok (.getfield 61, 3) := by decide +kernel
theorem dX2_payEstate_23 : decode cX2_payEstate 23 = .ok (.iload_n 2, 1) := by decide +kernel
theorem dX2_payEstate_24 : decode cX2_payEstate 24 = .ok (.iadd, 1) := by decide +kernel
theorem dX2_payEstate_25 : decode cX2_payEstate 25 = .ok (.putfield 61, 3) := by decide +kernel
theorem dX2_payEstate_28 : decode cX2_payEstate 28 = .ok (.return_, 1) := by decide +kernel
theorem dX2_addLot_0 : decode cX2_addLot 0 = .ok (.iload_n 1, 1) := by decide +kernel
theorem dX2_addLot_1 : decode cX2_addLot 1 = .ok (.iconst 1, 1) := by decide +kernel
theorem dX2_addLot_2 : decode cX2_addLot 2 = .ok (.bipush 12, 2) := by decide +kernel
theorem dX2_addLot_4 : decode cX2_addLot 4 = .ok (.invokestatic 77, 3) := by decide +kernel
theorem dX2_addLot_7 : decode cX2_addLot 7 = .ok (.ifCond .eq 13, 3) := by decide +kernel
theorem dX2_addLot_10 : decode cX2_addLot 10 = .ok (.iload_n 2, 1) := by decide +kernel
theorem dX2_addLot_11 : decode cX2_addLot 11 = .ok (.iconst 0, 1) := by decide +kernel
theorem dX2_addLot_12 : decode cX2_addLot 12 = .ok (.bipush 50, 2) := by decide +kernel
theorem dX2_addLot_14 : decode cX2_addLot 14 = .ok (.invokestatic 77, 3) := by decide +kernel
theorem dX2_addLot_17 : decode cX2_addLot 17 = .ok (.ifCond .ne 6, 3) := by decide +kernel
theorem dX2_addLot_20 : decode cX2_addLot 20 = .ok (.ldc 81, 2) := by decide +kernel
theorem dX2_addLot_22 : decode cX2_addLot 22 = .ok (.ireturn, 1) := by decide +kernel
theorem dX2_addLot_23 : decode cX2_addLot 23 = .ok (.aload_n 0, 1) := by decide +kernel
theorem dX2_addLot_24 : decode cX2_addLot 24 = .ok (.getfield 55, 3) := by decide +kernel
theorem dX2_addLot_27 : decode cX2_addLot 27 = .ok (.bipush 6, 2) := by decide +kernel
theorem dX2_addLot_29 : decode cX2_addLot 29 = .ok (.if_icmp .lt 6, 3) := by decide +kernel
theorem dX2_addLot_32 : decode cX2_addLot 32 = .ok (.ldc 82, 2) := by decide +kernel
theorem dX2_addLot_34 : decode cX2_addLot 34 = .ok (.ireturn, 1) := by decide +kernel
theorem dX2_addLot_35 : decode cX2_addLot 35 = .ok (.aload_n 0, 1) := by decide +kernel
theorem dX2_addLot_36 : decode cX2_addLot 36 = .ok (.dup, 1) := by decide +kernel
theorem dX2_addLot_37 : decode cX2_addLot 37 = .ok (.getfield 55, 3) := by decide +kernel
theorem dX2_addLot_40 : decode cX2_addLot 40 = .ok (.iconst 1, 1) := by decide +kernel
theorem dX2_addLot_41 : decode cX2_addLot 41 = .ok (.iadd, 1) := by decide +kernel
theorem dX2_addLot_42 : decode cX2_addLot 42 = .ok (.putfield 55, 3) := by decide +kernel
theorem dX2_addLot_45 : decode cX2_addLot 45 = .ok (.aload_n 0, 1) := by decide +kernel
theorem dX2_addLot_46 : decode cX2_addLot 46 = .ok (.aload_n 0, 1) := by decide +kernel
theorem dX2_addLot_47 : decode cX2_addLot 47 = .ok (.getfield 55, 3) := by decide +kernel
theorem dX2_addLot_50 : decode cX2_addLot 50 = .ok (.iconst 1, 1) := by decide +kernel
theorem dX2_addLot_51 : decode cX2_addLot 51 = .ok (.isub, 1) := by decide +kernel
theorem dX2_addLot_52 : decode cX2_addLot 52 = .ok (.invokevirtual 83, 3) := by decide +kernel
theorem dX2_addLot_55 : decode cX2_addLot 55 = .ok (.astore_n 3, 1) := by decide +kernel
theorem dX2_addLot_56 : decode cX2_addLot 56 = .ok (.aload_n 3, 1) := by decide +kernel
theorem dX2_addLot_57 : decode cX2_addLot 57 = .ok (.ifnull 12, 3) := by decide +kernel
theorem dX2_addLot_60 : decode cX2_addLot 60 = .ok (.aload_n 3, 1) := by decide +kernel
theorem dX2_addLot_61 : decode cX2_addLot 61 = .ok (.getfield 87, 3) := by decide +kernel
theorem dX2_addLot_64 : decode cX2_addLot 64 = .ok (.iload_n 1, 1) := by decide +kernel
theorem dX2_addLot_65 : decode cX2_addLot 65 = .ok (.iload_n 2, 1) := by decide +kernel
theorem dX2_addLot_66 : decode cX2_addLot 66 = .ok (.invokevirtual 90, 3) := by decide +kernel
theorem dX2_addLot_69 : decode cX2_addLot 69 = .ok (.aload_n 0, 1) := by decide +kernel
theorem dX2_addLot_70 : decode cX2_addLot 70 = .ok (.getfield 55, 3) := by decide +kernel
theorem dX2_addLot_73 : decode cX2_addLot 73 = .ok (.iconst 1, 1) := by decide +kernel
theorem dX2_addLot_74 : decode cX2_addLot 74 = .ok (.isub, 1) := by decide +kernel
theorem dX2_addLot_75 : decode cX2_addLot 75 = .ok (.ireturn, 1) := by decide +kernel
theorem dX2_tasteLot_0 : decode cX2_tasteLot 0 = .ok (.aload_n 0, 1) := by decide +kernel
theorem dX2_tasteLot_1 : decode cX2_tasteLot 1 = .ok (.iload_n 1, 1) := by decide +kernel
theorem dX2_tasteLot_2 : decode cX2_tasteLot 2 = .ok (.invokevirtual 83, 3) := by decide +kernel
theorem dX2_tasteLot_5 : decode cX2_tasteLot 5 = .ok (.astore_n 3, 1) := by decide +kernel
theorem dX2_tasteLot_6 : decode cX2_tasteLot 6 = .ok (.aload_n 3, 1) := by decide +kernel
theorem dX2_tasteLot_7 : decode cX2_tasteLot 7 = .ok (.ifnull 13, 3) := by decide +kernel
theorem dX2_tasteLot_10 : decode cX2_tasteLot 10 = .ok (.iload_n 2, 1) := by decide +kernel
theorem dX2_tasteLot_11 : decode cX2_tasteLot 11 = .ok (.iconst 0, 1) := by decide +kernel
theorem dX2_tasteLot_12 : decode cX2_tasteLot 12 = .ok (.bipush 100, 2) := by decide +kernel
theorem dX2_tasteLot_14 : decode cX2_tasteLot 14 = .ok (.invokestatic 77, 3) := by decide +kernel
theorem dX2_tasteLot_17 : decode cX2_tasteLot 17 = .ok (.ifCond .ne 6, 3) := by decide +kernel
theorem dX2_tasteLot_20 : decode cX2_tasteLot 20 = .ok (.ldc 81, 2) := by decide +kernel
theorem dX2_tasteLot_22 : decode cX2_tasteLot 22 = .ok (.ireturn, 1) := by decide +kernel
theorem dX2_tasteLot_23 : decode cX2_tasteLot 23 = .ok (.aload_n 3, 1) := by decide +kernel
theorem dX2_tasteLot_24 : decode cX2_tasteLot 24 = .ok (.getfield 87, 3) := by decide +kernel
theorem dX2_tasteLot_27 : decode cX2_tasteLot 27 = .ok (.invokevirtual 94, 3) := by decide +kernel
theorem dX2_tasteLot_30 : decode cX2_tasteLot 30 = .ok (.istore 4, 2) := by decide +kernel
theorem dX2_tasteLot_32 : decode cX2_tasteLot 32 = .ok (.iload 4, 2) := by decide +kernel
theorem dX2_tasteLot_34 : decode cX2_tasteLot 34 = .ok (.ifCond .ge 6, 3) := by decide +kernel
theorem dX2_tasteLot_37 : decode cX2_tasteLot 37 = .ok (.ldc 98, 2) := by decide +kernel
theorem dX2_tasteLot_39 : decode cX2_tasteLot 39 = .ok (.ireturn, 1) := by decide +kernel
theorem dX2_tasteLot_40 : decode cX2_tasteLot 40 = .ok (.aload_n 3, 1) := by decide +kernel
theorem dX2_tasteLot_41 : decode cX2_tasteLot 41 = .ok (.getfield 87, 3) := by decide +kernel
theorem dX2_tasteLot_44 : decode cX2_tasteLot 44 = .ok (.iload 4, 2) := by decide +kernel
theorem dX2_tasteLot_46 : decode cX2_tasteLot 46 = .ok (.invokevirtual 99, 3) := by decide +kernel
theorem dX2_tasteLot_49 : decode cX2_tasteLot 49 = .ok (.aload_n 3, 1) := by decide +kernel
theorem dX2_tasteLot_50 : decode cX2_tasteLot 50 = .ok (.dup, 1) := by decide +kernel
theorem dX2_tasteLot_51 : decode cX2_tasteLot 51 = .ok (.getfield 103, 3) := by decide +kernel
theorem dX2_tasteLot_54 : decode cX2_tasteLot 54 = .ok (.iload_n 2, 1) := by decide +kernel
theorem dX2_tasteLot_55 : decode cX2_tasteLot 55 = .ok (.iadd, 1) := by decide +kernel
theorem dX2_tasteLot_56 : decode cX2_tasteLot 56 = .ok (.putfield 103, 3) := by decide +kernel
theorem dX2_tasteLot_59 : decode cX2_tasteLot 59 = .ok (.aload_n 3, 1) := by decide +kernel
theorem dX2_tasteLot_60 : decode cX2_tasteLot 60 = .ok (.dup, 1) := by decide +kernel
theorem dX2_tasteLot_61 : decode cX2_tasteLot 61 = .ok (.getfield 106, 3) := by decide +kernel
theorem dX2_tasteLot_64 : decode cX2_tasteLot 64 = .ok (.iconst 1, 1) := by decide +kernel
theorem dX2_tasteLot_65 : decode cX2_tasteLot 65 = .ok (.iadd, 1) := by decide +kernel
theorem dX2_tasteLot_66 : decode cX2_tasteLot 66 = .ok (.putfield 106, 3) := by decide +kernel
theorem dX2_tasteLot_69 : decode cX2_tasteLot 69 = .ok (.aload_n 3, 1) := by decide +kernel
theorem dX2_tasteLot_70 : decode cX2_tasteLot 70 = .ok (.invokevirtual 109, 3) := by decide +kernel
theorem dX2_tasteLot_73 : decode cX2_tasteLot 73 = .ok (.ireturn, 1) := by decide +kernel
theorem dX2_topLot_0 : decode cX2_topLot 0 = .ok (.aload_n 0, 1) := by decide +kernel
theorem dX2_topLot_1 : decode cX2_topLot 1 = .ok (.iload_n 1, 1) := by decide +kernel
theorem dX2_topLot_2 : decode cX2_topLot 2 = .ok (.invokevirtual 83, 3) := by decide +kernel
theorem dX2_topLot_5 : decode cX2_topLot 5 = .ok (.astore_n 2, 1) := by decide +kernel
theorem dX2_topLot_6 : decode cX2_topLot 6 = .ok (.aload_n 2, 1) := by decide +kernel
theorem dX2_topLot_7 : decode cX2_topLot 7 = .ok (.ifnonnull 6, 3) := by decide +kernel
theorem dX2_topLot_10 : decode cX2_topLot 10 = .ok (.ldc 81, 2) := by decide +kernel
theorem dX2_topLot_12 : decode cX2_topLot 12 = .ok (.ireturn, 1) := by decide +kernel
theorem dX2_topLot_13 : decode cX2_topLot 13 = .ok (.aload_n 2, 1) := by decide +kernel
theorem dX2_topLot_14 : decode cX2_topLot 14 = .ok (.getfield 87, 3) := by decide +kernel
theorem dX2_topLot_17 : decode cX2_topLot 17 = .ok (.invokevirtual 112, 3) := by decide +kernel
theorem dX2_topLot_20 : decode cX2_topLot 20 = .ok (.ifCond .ne 6, 3) := by decide +kernel
theorem dX2_topLot_23 : decode cX2_topLot 23 = .ok (.ldc 98, 2) := by decide +kernel
theorem dX2_topLot_25 : decode cX2_topLot 25 = .ok (.ireturn, 1) := by decide +kernel
theorem dX2_topLot_26 : decode cX2_topLot 26 = .ok (.aload_n 2, 1) := by decide +kernel
theorem dX2_topLot_27 : decode cX2_topLot 27 = .ok (.getfield 87, 3) := by decide +kernel
theorem dX2_topLot_30 : decode cX2_topLot 30 = .ok (.invokevirtual 116, 3) := by decide +kernel
theorem dX2_topLot_33 : decode cX2_topLot 33 = .ok (.aload_n 2, 1) := by decide +kernel
theorem dX2_topLot_34 : decode cX2_topLot 34 = .ok (.getfield 87, 3) := by decide +kernel
theorem dX2_topLot_37 : decode cX2_topLot 37 = .ok (.getfield 119, 3) := by decide +kernel
theorem dX2_topLot_40 : decode cX2_topLot 40 = .ok (.ireturn, 1) := by decide +kernel
theorem dX2_passMonths_0 : decode cX2_passMonths 0 = .ok (.iload_n 1, 1) := by decide +kernel
theorem dX2_passMonths_1 : decode cX2_passMonths 1 = .ok (.iconst 1, 1) := by decide +kernel
theorem dX2_passMonths_2 : decode cX2_passMonths 2 = .ok (.bipush 60, 2) := by decide +kernel
theorem dX2_passMonths_4 : decode cX2_passMonths 4 = .ok (.invokestatic 77, 3) := by decide +kernel
theorem dX2_passMonths_7 : decode cX2_passMonths 7 = .ok (.ifCond .ne 6, 3) := by decide +kernel
theorem dX2_passMonths_10 : decode cX2_passMonths 10 = .ok (.ldc 81, 2) := by decide +kernel
theorem dX2_passMonths_12 : decode cX2_passMonths 12 = .ok (.ireturn, 1) := by decide +kernel
theorem dX2_passMonths_13 : decode cX2_passMonths 13 = .ok (.aload_n 0, 1) := by decide +kernel
theorem dX2_passMonths_14 : decode cX2_passMonths 14 = .ok (.getfield 64, 3) := by decide +kernel
theorem dX2_passMonths_17 : decode cX2_passMonths 17 = .ok (.iload_n 1, 1) := by decide +kernel
theorem dX2_passMonths_18 : decode cX2_passMonths 18 = .ok (.iadd, 1) := by decide +kernel
theorem dX2_passMonths_19 : decode cX2_passMonths 19 = .ok (.sipush 999, 3) := by decide +kernel
theorem dX2_passMonths_22 : decode cX2_passMonths 22 = .ok (.if_icmp .le 6, 3) := by decide +kernel
theorem dX2_passMonths_25 : decode cX2_passMonths 25 = .ok (.ldc 82, 2) := by decide +kernel
theorem dX2_passMonths_27 : decode cX2_passMonths 27 = .ok (.ireturn, 1) := by decide +kernel
theorem dX2_passMonths_28 : decode cX2_passMonths 28 = .ok (.iconst 0, 1) := by decide +kernel
theorem dX2_passMonths_29 : decode cX2_passMonths 29 = .ok (.istore_n 2, 1) := by decide +kernel
theorem dX2_passMonths_30 : decode cX2_passMonths 30 = .ok (.iconst 0, 1) := by decide +kernel
theorem dX2_passMonths_31 : decode cX2_passMonths 31 = .ok (.istore_n 3, 1) := by decide +kernel
theorem dX2_passMonths_32 : decode cX2_passMonths 32 = .ok (.iload_n 3, 1) := by decide +kernel
theorem dX2_passMonths_33 : decode cX2_passMonths 33 = .ok (.aload_n 0, 1) := by decide +kernel
theorem dX2_passMonths_34 : decode cX2_passMonths 34 = .ok (.getfield 55, 3) := by decide +kernel
theorem dX2_passMonths_37 : decode cX2_passMonths 37 = .ok (.if_icmp .ge 37, 3) := by decide +kernel
theorem dX2_passMonths_40 : decode cX2_passMonths 40 = .ok (.aload_n 0, 1) := by decide +kernel
theorem dX2_passMonths_41 : decode cX2_passMonths 41 = .ok (.iload_n 3, 1) := by decide +kernel
theorem dX2_passMonths_42 : decode cX2_passMonths 42 = .ok (.invokevirtual 83, 3) := by decide +kernel
theorem dX2_passMonths_45 : decode cX2_passMonths 45 = .ok (.astore 4, 2) := by decide +kernel
theorem dX2_passMonths_47 : decode cX2_passMonths 47 = .ok (.iload_n 2, 1) := by decide +kernel
theorem dX2_passMonths_48 : decode cX2_passMonths 48 = .ok (.aload 4, 2) := by decide +kernel
theorem dX2_passMonths_50 : decode cX2_passMonths 50 = .ok (.ifnonnull 7, 3) := by decide +kernel
theorem dX2_passMonths_53 : decode cX2_passMonths 53 = .ok (.iconst 0, 1) := by decide +kernel
theorem dX2_passMonths_54 : decode cX2_passMonths 54 = .ok (.goto 12, 3) := by decide +kernel
theorem dX2_passMonths_57 : decode cX2_passMonths 57 = .ok (.aload 4, 2) := by decide +kernel
theorem dX2_passMonths_59 : decode cX2_passMonths 59 = .ok (.getfield 87, 3) := by decide +kernel
theorem dX2_passMonths_62 : decode cX2_passMonths 62 = .ok (.iload_n 1, 1) := by decide +kernel
theorem dX2_passMonths_63 : decode cX2_passMonths 63 = .ok (.invokevirtual 122, 3) := by decide +kernel
theorem dX2_passMonths_66 : decode cX2_passMonths 66 = .ok (.iadd, 1) := by decide +kernel
theorem dX2_passMonths_67 : decode cX2_passMonths 67 = .ok (.istore_n 2, 1) := by decide +kernel
theorem dX2_passMonths_68 : decode cX2_passMonths 68 = .ok (.iinc 3 1, 3) := by decide +kernel
theorem dX2_passMonths_71 : decode cX2_passMonths 71 = .ok (.goto (-39), 3) := by decide +kernel
theorem dX2_passMonths_74 : decode cX2_passMonths 74 = .ok (.aload_n 0, 1) := by decide +kernel
theorem dX2_passMonths_75 : decode cX2_passMonths 75 = .ok (.dup, 1) := by decide +kernel
theorem dX2_passMonths_76 : decode cX2_passMonths 76 = .ok (.getfield 64, 3) := by decide +kernel
theorem dX2_passMonths_79 : decode cX2_passMonths 79 = .ok (.iload_n 1, 1) := by decide +kernel
theorem dX2_passMonths_80 : decode cX2_passMonths 80 = .ok (.iadd, 1) := by decide +kernel
theorem dX2_passMonths_81 : decode cX2_passMonths 81 = .ok (.putfield 64, 3) := by decide +kernel
theorem dX2_passMonths_84 : decode cX2_passMonths 84 = .ok (.aload_n 0, 1) := by decide +kernel
theorem dX2_passMonths_85 : decode cX2_passMonths 85 = .ok (.dup, 1) := by decide +kernel
theorem dX2_passMonths_86 : decode cX2_passMonths 86 = .ok (.getfield 67, 3) := by decide +kernel
theorem dX2_passMonths_89 : decode cX2_passMonths 89 = .ok (.iload_n 2, 1) := by decide +kernel
theorem dX2_passMonths_90 : decode cX2_passMonths 90 = .ok (.iadd, 1) := by decide +kernel
theorem dX2_passMonths_91 : decode cX2_passMonths 91 = .ok (.putfield 67, 3) := by decide +kernel
theorem dX2_passMonths_94 : decode cX2_passMonths 94 = .ok (.iload_n 2, 1) := by decide +kernel
theorem dX2_passMonths_95 : decode cX2_passMonths 95 = .ok (.ireturn, 1) := by decide +kernel
theorem dX2_bottleLot_0 : decode cX2_bottleLot 0 = .ok (.aload_n 0, 1) := by decide +kernel
theorem dX2_bottleLot_1 : decode cX2_bottleLot 1 = .ok (.iload_n 1, 1) := by decide +kernel
theorem dX2_bottleLot_2 : decode cX2_bottleLot 2 = .ok (.invokevirtual 83, 3) := by decide +kernel
theorem dX2_bottleLot_5 : decode cX2_bottleLot 5 = .ok (.astore_n 2, 1) := by decide +kernel
theorem dX2_bottleLot_6 : decode cX2_bottleLot 6 = .ok (.aload_n 2, 1) := by decide +kernel
theorem dX2_bottleLot_7 : decode cX2_bottleLot 7 = .ok (.ifnonnull 6, 3) := by decide +kernel
theorem dX2_bottleLot_10 : decode cX2_bottleLot 10 = .ok (.ldc 81, 2) := by decide +kernel
theorem dX2_bottleLot_12 : decode cX2_bottleLot 12 = .ok (.ireturn, 1) := by decide +kernel
theorem dX2_bottleLot_13 : decode cX2_bottleLot 13 = .ok (.aload_n 2, 1) := by decide +kernel
theorem dX2_bottleLot_14 : decode cX2_bottleLot 14 = .ok (.getfield 126, 3) := by decide +kernel
theorem dX2_bottleLot_17 : decode cX2_bottleLot 17 = .ok (.ifCond .eq 6, 3) := by decide +kernel
theorem dX2_bottleLot_20 : decode cX2_bottleLot 20 = .ok (.ldc 98, 2) := by decide +kernel
theorem dX2_bottleLot_22 : decode cX2_bottleLot 22 = .ok (.ireturn, 1) := by decide +kernel
theorem dX2_bottleLot_23 : decode cX2_bottleLot 23 = .ok (.aload_n 2, 1) := by decide +kernel
theorem dX2_bottleLot_24 : decode cX2_bottleLot 24 = .ok (.invokevirtual 130, 3) := by decide +kernel
theorem dX2_bottleLot_27 : decode cX2_bottleLot 27 = .ok (.aload_n 2, 1) := by decide +kernel
theorem dX2_bottleLot_28 : decode cX2_bottleLot 28 = .ok (.invokevirtual 133, 3) := by decide +kernel
theorem dX2_bottleLot_31 : decode cX2_bottleLot 31 = .ok (.istore_n 3, 1) := by decide +kernel
theorem dX2_bottleLot_32 : decode cX2_bottleLot 32 = .ok (.iconst 0, 1) := by decide +kernel
theorem dX2_bottleLot_33 : decode cX2_bottleLot 33 = .ok (.istore 4, 2) := by decide +kernel
theorem dX2_bottleLot_35 : decode cX2_bottleLot 35 = .ok (.iconst 0, 1) := by decide +kernel
theorem dX2_bottleLot_36 : decode cX2_bottleLot 36 = .ok (.istore 5, 2) := by decide +kernel
theorem dX2_bottleLot_38 : decode cX2_bottleLot 38 = .ok (.iload 5, 2) := by decide +kernel
theorem dX2_bottleLot_40 : decode cX2_bottleLot 40 = .ok (.aload_n 0, 1) := by decide +kernel
theorem dX2_bottleLot_41 : decode cX2_bottleLot 41 = .ok (.getfield 58, 3) := by decide +kernel
theorem dX2_bottleLot_44 : decode cX2_bottleLot 44 = .ok (.if_icmp .ge 23, 3) := by decide +kernel
theorem dX2_bottleLot_47 : decode cX2_bottleLot 47 = .ok (.iload 4, 2) := by decide +kernel
theorem dX2_bottleLot_49 : decode cX2_bottleLot 49 = .ok (.aload_n 0, 1) := by decide +kernel
theorem dX2_bottleLot_50 : decode cX2_bottleLot 50 = .ok (.iload_n 1, 1) := by decide +kernel
theorem dX2_bottleLot_51 : decode cX2_bottleLot 51 = .ok (.aload_n 2, 1) := by decide +kernel
theorem dX2_bottleLot_52 : decode cX2_bottleLot 52 = .ok (.iload 5, 2) := by decide +kernel
theorem dX2_bottleLot_54 : decode cX2_bottleLot 54 = .ok (.iload_n 3, 1) := by decide +kernel
theorem dX2_bottleLot_55 : decode cX2_bottleLot 55 = .ok (.invokevirtual 136, 3) := by decide +kernel
theorem dX2_bottleLot_58 : decode cX2_bottleLot 58 = .ok (.iadd, 1) := by decide +kernel
theorem dX2_bottleLot_59 : decode cX2_bottleLot 59 = .ok (.istore 4, 2) := by decide +kernel
theorem dX2_bottleLot_61 : decode cX2_bottleLot 61 = .ok (.iinc 5 1, 3) := by decide +kernel
theorem dX2_bottleLot_64 : decode cX2_bottleLot 64 = .ok (.goto (-26), 3) := by decide +kernel
theorem dX2_bottleLot_67 : decode cX2_bottleLot 67 = .ok (.aload_n 0, 1) := by decide +kernel
theorem dX2_bottleLot_68 : decode cX2_bottleLot 68 = .ok (.dup, 1) := by decide +kernel
theorem dX2_bottleLot_69 : decode cX2_bottleLot 69 = .ok (.getfield 70, 3) := by decide +kernel
theorem dX2_bottleLot_72 : decode cX2_bottleLot 72 = .ok (.iload 4, 2) := by decide +kernel
theorem dX2_bottleLot_74 : decode cX2_bottleLot 74 = .ok (.iadd, 1) := by decide +kernel
theorem dX2_bottleLot_75 : decode cX2_bottleLot 75 = .ok (.putfield 70, 3) := by decide +kernel
theorem dX2_bottleLot_78 : decode cX2_bottleLot 78 = .ok (.iload 4, 2) := by decide +kernel
theorem dX2_bottleLot_80 : decode cX2_bottleLot 80 = .ok (.ireturn, 1) := by decide +kernel
theorem dX2_cutFutures_0 : decode cX2_cutFutures 0 = .ok (.aload_n 2, 1) := by decide +kernel
theorem dX2_cutFutures_1 : decode cX2_cutFutures 1 = .ok (.iload_n 3, 1) := by decide +kernel
theorem dX2_cutFutures_2 : decode cX2_cutFutures 2 = .ok (.aload_n 2, 1) := by decide +kernel
theorem dX2_cutFutures_3 : decode cX2_cutFutures 3 = .ok (.getfield 140, 3) := by decide +kernel
theorem dX2_cutFutures_6 : decode cX2_cutFutures 6 = .ok (.iload 4, 2) := by decide +kernel
theorem dX2_cutFutures_8 : decode cX2_cutFutures 8 = .ok (.invokevirtual 143, 3) := by decide +kernel
theorem dX2_cutFutures_11 : decode cX2_cutFutures 11 = .ok (.istore 5, 2) := by decide +kernel
theorem dX2_cutFutures_13 : decode cX2_cutFutures 13 = .ok (.iload 5, 2) := by decide +kernel
theorem dX2_cutFutures_15 : decode cX2_cutFutures 15 = .ok (.ifCond .le 36, 3) := by decide +kernel
theorem dX2_cutFutures_18 : decode cX2_cutFutures 18 = .ok (.aload_n 2, 1) := by decide +kernel
theorem dX2_cutFutures_19 : decode cX2_cutFutures 19 = .ok (.iload_n 3, 1) := by decide +kernel
theorem dX2_cutFutures_20 : decode cX2_cutFutures 20 = .ok (.iload 5, 2) := by decide +kernel
theorem dX2_cutFutures_22 : decode cX2_cutFutures 22 = .ok (.invokevirtual 147, 3) := by decide +kernel
theorem dX2_cutFutures_25 : decode cX2_cutFutures 25 = .ok (.istore 6, 2) := by decide +kernel
theorem dX2_cutFutures_27 : decode cX2_cutFutures 27 = .ok (.aload_n 0, 1) := by decide +kernel
theorem dX2_cutFutures_28 : decode cX2_cutFutures 28 = .ok (.iload_n 3, 1) := by decide +kernel
theorem dX2_cutFutures_29 : decode cX2_cutFutures 29 = .ok (.iload 6, 2) := by decide +kernel
theorem dX2_cutFutures_31 : decode cX2_cutFutures 31 = .ok (.ineg, 1) := by decide +kernel
theorem dX2_cutFutures_32 : decode cX2_cutFutures 32 = .ok (.invokevirtual 151, 3) := by decide +kernel
theorem dX2_cutFutures_35 : decode cX2_cutFutures 35 = .ok (.aload_n 0, 1) := by decide +kernel
theorem dX2_cutFutures_36 : decode cX2_cutFutures 36 = .ok (.getfield 24, 3) := by decide +kernel
theorem dX2_cutFutures_39 : decode cX2_cutFutures 39 = .ok (.iconst 2, 1) := by decide +kernel
theorem dX2_cutFutures_40 : decode cX2_cutFutures 40 = .ok (.iload_n 1, 1) := by decide +kernel
theorem dX2_cutFutures_41 : decode cX2_cutFutures 41 = .ok (.iload_n 3, 1) := by decide +kernel
theorem dX2_cutFutures_42 : decode cX2_cutFutures 42 = .ok (.iload 5, 2) := by decide +kernel
theorem dX2_cutFutures_44 : decode cX2_cutFutures 44 = .ok (.iload 6, 2) := by decide +kernel
theorem dX2_cutFutures_46 : decode cX2_cutFutures 46 = .ok (.ldc 154, 2) := by decide +kernel
theorem dX2_cutFutures_48 : decode cX2_cutFutures 48 = .ok (.invokevirtual 155, 3) := by decide +kernel
theorem dX2_cutFutures_51 : decode cX2_cutFutures 51 = .ok (.iload 5, 2) := by decide +kernel
theorem dX2_cutFutures_53 : decode cX2_cutFutures 53 = .ok (.ireturn, 1) := by decide +kernel
theorem dX2_addBuyer_0 : decode cX2_addBuyer 0 = .ok (.aload_n 0, 1) := by decide +kernel
theorem dX2_addBuyer_1 : decode cX2_addBuyer 1 = .ok (.getfield 58, 3) := by decide +kernel
theorem dX2_addBuyer_4 : decode cX2_addBuyer 4 = .ok (.bipush 6, 2) := by decide +kernel
theorem dX2_addBuyer_6 : decode cX2_addBuyer 6 = .ok (.if_icmp .lt 6, 3) := by decide +kernel
theorem dX2_addBuyer_9 : decode cX2_addBuyer 9 = .ok (.ldc 82, 2) := by decide +kernel
theorem dX2_addBuyer_11 : decode cX2_addBuyer 11 = .ok (.ireturn, 1) := by decide +kernel
theorem dX2_addBuyer_12 : decode cX2_addBuyer 12 = .ok (.aload_n 0, 1) := by decide +kernel
theorem dX2_addBuyer_13 : decode cX2_addBuyer 13 = .ok (.dup, 1) := by decide +kernel
theorem dX2_addBuyer_14 : decode cX2_addBuyer 14 = .ok (.getfield 58, 3) := by decide +kernel
theorem dX2_addBuyer_17 : decode cX2_addBuyer 17 = .ok (.iconst 1, 1) := by decide +kernel
theorem dX2_addBuyer_18 : decode cX2_addBuyer 18 = .ok (.iadd, 1) := by decide +kernel
theorem dX2_addBuyer_19 : decode cX2_addBuyer 19 = .ok (.putfield 58, 3) := by decide +kernel
theorem dX2_addBuyer_22 : decode cX2_addBuyer 22 = .ok (.aload_n 0, 1) := by decide +kernel
theorem dX2_addBuyer_23 : decode cX2_addBuyer 23 = .ok (.getfield 58, 3) := by decide +kernel
theorem dX2_addBuyer_26 : decode cX2_addBuyer 26 = .ok (.iconst 1, 1) := by decide +kernel
theorem dX2_addBuyer_27 : decode cX2_addBuyer 27 = .ok (.isub, 1) := by decide +kernel
theorem dX2_addBuyer_28 : decode cX2_addBuyer 28 = .ok (.ireturn, 1) := by decide +kernel
theorem dX2_sellFutures_0 : decode cX2_sellFutures 0 = .ok (.aload_n 0, 1) := by decide +kernel
theorem dX2_sellFutures_1 : decode cX2_sellFutures 1 = .ok (.iload_n 1, 1) := by decide +kernel
theorem dX2_sellFutures_2 : decode cX2_sellFutures 2 = .ok (.invokevirtual 83, 3) := by decide +kernel
theorem dX2_sellFutures_5 : decode cX2_sellFutures 5 = .ok (.astore 5, 2) := by decide +kernel
theorem dX2_sellFutures_7 : decode cX2_sellFutures 7 = .ok (.aload 5, 2) := by decide +kernel
theorem dX2_sellFutures_9 : decode cX2_sellFutures 9 = .ok (.ifnull 34, 3) := by decide +kernel
theorem dX2_sellFutures_12 : decode cX2_sellFutures 12 = .ok (.aload_n 0, 1) := by decide +kernel
theorem dX2_sellFutures_13 : decode cX2_sellFutures 13 = .ok (.iload_n 2, 1) := by decide +kernel
theorem dX2_sellFutures_14 : decode cX2_sellFutures 14 = .ok (.invokevirtual 73, 3) := by decide +kernel
theorem dX2_sellFutures_17 : decode cX2_sellFutures 17 = .ok (.ifCond .eq 26, 3) := by decide +kernel
theorem dX2_sellFutures_20 : decode cX2_sellFutures 20 = .ok (.iload_n 3, 1) := by decide +kernel
theorem dX2_sellFutures_21 : decode cX2_sellFutures 21 = .ok (.iconst 1, 1) := by decide +kernel
theorem dX2_sellFutures_22 : decode cX2_sellFutures 22 = .ok (.sipush 999, 3) := by decide +kernel
theorem dX2_sellFutures_25 : decode cX2_sellFutures 25 = .ok (.invokestatic 77, 3) := by decide +kernel
theorem dX2_sellFutures_28 : decode cX2_sellFutures 28 = .ok (.ifCond .eq 15, 3) := by decide +kernel
theorem dX2_sellFutures_31 : decode cX2_sellFutures 31 = .ok (.iload 4, 2) := by decide +kernel
theorem dX2_sellFutures_33 : decode cX2_sellFutures 33 = .ok (.iconst 0, 1) := by decide +kernel
theorem dX2_sellFutures_34 : decode cX2_sellFutures 34 = .ok (.sipush 999, 3) := by decide +kernel
theorem dX2_sellFutures_37 : decode cX2_sellFutures 37 = .ok (.invokestatic 77, 3) := by decide +kernel
theorem dX2_sellFutures_40 : decode cX2_sellFutures 40 = .ok (.ifCond .ne 6, 3) := by decide +kernel
theorem dX2_sellFutures_43 : decode cX2_sellFutures 43 = .ok (.ldc 81, 2) := by decide +kernel
theorem dX2_sellFutures_45 : decode cX2_sellFutures 45 = .ok (.ireturn, 1) := by decide +kernel
theorem dX2_sellFutures_46 : decode cX2_sellFutures 46 = .ok (.aload 5, 2) := by decide +kernel
theorem dX2_sellFutures_48 : decode cX2_sellFutures 48 = .ok (.getfield 126, 3) := by decide +kernel
theorem dX2_sellFutures_51 : decode cX2_sellFutures 51 = .ok (.ifCond .ne 19, 3) := by decide +kernel
theorem dX2_sellFutures_54 : decode cX2_sellFutures 54 = .ok (.aload 5, 2) := by decide +kernel
theorem dX2_sellFutures_56 : decode cX2_sellFutures 56 = .ok (.invokevirtual 133, 3) := by decide +kernel
theorem dX2_sellFutures_59 : decode cX2_sellFutures 59 = .ok (.iload_n 3, 1) := by decide +kernel
theorem dX2_sellFutures_60 : decode cX2_sellFutures 60 = .ok (.iadd, 1) := by decide +kernel
theorem dX2_sellFutures_61 : decode cX2_sellFutures 61 = .ok (.aload_n 0, 1) := by decide +kernel
theorem dX2_sellFutures_62 : decode cX2_sellFutures 62 = .ok (.aload 5, 2) := by decide +kernel
theorem dX2_sellFutures_64 : decode cX2_sellFutures 64 = .ok (.invokevirtual 159, 3) := by decide +kernel
theorem dX2_sellFutures_67 : decode cX2_sellFutures 67 = .ok (.if_icmp .le 6, 3) := by decide +kernel
theorem dX2_sellFutures_70 : decode cX2_sellFutures 70 = .ok (.ldc 98, 2) := by decide +kernel
theorem dX2_sellFutures_72 : decode cX2_sellFutures 72 = .ok (.ireturn, 1) := by decide +kernel
theorem dX2_sellFutures_73 : decode cX2_sellFutures 73 = .ok (.aload 5, 2) := by decide +kernel
theorem dX2_sellFutures_75 : decode cX2_sellFutures 75 = .ok (.iload_n 2, 1) := by decide +kernel
theorem dX2_sellFutures_76 : decode cX2_sellFutures 76 = .ok (.iload_n 3, 1) := by decide +kernel
theorem dX2_sellFutures_77 : decode cX2_sellFutures 77 = .ok (.iload_n 3, 1) := by decide +kernel
theorem dX2_sellFutures_78 : decode cX2_sellFutures 78 = .ok (.iload 4, 2) := by decide +kernel
theorem dX2_sellFutures_80 : decode cX2_sellFutures 80 = .ok (.imul, 1) := by decide +kernel
theorem dX2_sellFutures_81 : decode cX2_sellFutures 81 = .ok (.invokevirtual 163, 3) := by decide +kernel
theorem dX2_sellFutures_84 : decode cX2_sellFutures 84 = .ok (.aload_n 0, 1) := by decide +kernel
theorem dX2_sellFutures_85 : decode cX2_sellFutures 85 = .ok (.iload_n 2, 1) := by decide +kernel
theorem dX2_sellFutures_86 : decode cX2_sellFutures 86 = .ok (.iload_n 3, 1) := by decide +kernel
theorem dX2_sellFutures_87 : decode cX2_sellFutures 87 = .ok (.iload 4, 2) := by decide +kernel
theorem dX2_sellFutures_89 : decode cX2_sellFutures 89 = .ok (.imul, 1) := by decide +kernel
theorem dX2_sellFutures_90 : decode cX2_sellFutures 90 = .ok (.invokevirtual 151, 3) := by decide +kernel
theorem dX2_sellFutures_93 : decode cX2_sellFutures 93 = .ok (.aload_n 0, 1) := by decide +kernel
theorem dX2_sellFutures_94 : decode cX2_sellFutures 94 = .ok (.getfield 24, 3) := by decide +kernel
theorem dX2_sellFutures_97 : decode cX2_sellFutures 97 = .ok (.iconst 0, 1) := by decide +kernel
theorem dX2_sellFutures_98 : decode cX2_sellFutures 98 = .ok (.iload_n 1, 1) := by decide +kernel
theorem dX2_sellFutures_99 : decode cX2_sellFutures 99 = .ok (.iload_n 2, 1) := by decide +kernel
theorem dX2_sellFutures_100 : decode cX2_sellFutures 100 = .ok (.iload_n 3, 1) := by decide +kernel
theorem dX2_sellFutures_101 : decode cX2_sellFutures 101 = .ok (.iload 4, 2) := by decide +kernel
theorem dX2_sellFutures_103 : decode cX2_sellFutures 103 = .ok (.ldc 154, 2) := by decide +kernel
theorem dX2_sellFutures_105 : decode cX2_sellFutures 105 = .ok (.invokevirtual 155, 3) := by decide +kernel
theorem dX2_sellFutures_108 : decode cX2_sellFutures 108 = .ok (.aload 5, 2) := by decide +kernel
theorem dX2_sellFutures_110 : decode cX2_sellFutures 110 = .ok (.iload_n 2, 1) := by decide +kernel
theorem dX2_sellFutures_111 : decode cX2_sellFutures 111 = .ok (.invokevirtual 167, 3) := by decide +kernel
theorem dX2_sellFutures_114 : decode cX2_sellFutures 114 = .ok (.ireturn, 1) := by decide +kernel
theorem dX2_tradeFutures_0 : decode cX2_tradeFutures 0 = .ok (.aload_n 0, 1) := by decide +kernel
theorem dX2_tradeFutures_1 : decode cX2_tradeFutures 1 = .ok (.iload_n 1, 1) := by decide +kernel
theorem dX2_tradeFutures_2 : decode cX2_tradeFutures 2 = .ok (.invokevirtual 83, 3) := by decide +kernel
theorem dX2_tradeFutures_5 : decode cX2_tradeFutures 5 = .ok (.astore 6, 2) := by decide +kernel
theorem dX2_tradeFutures_7 : decode cX2_tradeFutures 7 = .ok (.aload 6, 2) := by decide +kernel
theorem dX2_tradeFutures_9 : decode cX2_tradeFutures 9 = .ok (.ifnull 24, 3) := by decide +kernel
theorem dX2_tradeFutures_12 : decode cX2_tradeFutures 12 = .ok (.aload_n 0, 1) := by decide +kernel
theorem dX2_tradeFutures_13 : decode cX2_tradeFutures 13 = .ok (.iload_n 2, 1) := by decide +kernel
theorem dX2_tradeFutures_14 : decode cX2_tradeFutures 14 = .ok (.invokevirtual 73, 3) := by decide +kernel
theorem dX2_tradeFutures_17 : decode cX2_tradeFutures 17 = .ok (.ifCond .eq 16, 3) := by decide +kernel
theorem dX2_tradeFutures_20 : decode cX2_tradeFutures 20 = .ok (.aload_n 0, 1) := by decide +kernel
theorem dX2_tradeFutures_21 : decode cX2_tradeFutures 21 = .ok (.iload_n 3, 1) := by decide +kernel
theorem dX2_tradeFutures_22 : decode cX2_tradeFutures 22 = .ok (.invokevirtual 73, 3) := by decide +kernel
theorem dX2_tradeFutures_25 : decode cX2_tradeFutures 25 = .ok (.ifCond .eq 8, 3) := by decide +kernel
theorem dX2_tradeFutures_28 : decode cX2_tradeFutures 28 = .ok (.iload_n 2, 1) := by decide +kernel
theorem dX2_tradeFutures_29 : decode cX2_tradeFutures 29 = .ok (.iload_n 3, 1) := by decide +kernel
theorem dX2_tradeFutures_30 : decode cX2_tradeFutures 30 = .ok (.if_icmp .ne 6, 3) := by decide +kernel
theorem dX2_tradeFutures_33 : decode cX2_tradeFutures 33 = .ok (.ldc 81, 2) := by decide +kernel
theorem dX2_tradeFutures_35 : decode cX2_tradeFutures 35 = .ok (.ireturn, 1) := by decide +kernel
theorem dX2_tradeFutures_36 : decode cX2_tradeFutures 36 = .ok (.iload 4, 2) := by decide +kernel
theorem dX2_tradeFutures_38 : decode cX2_tradeFutures 38 = .ok (.iconst 1, 1) := by decide +kernel
theorem dX2_tradeFutures_39 : decode cX2_tradeFutures 39 = .ok (.sipush 999, 3) := by decide +kernel
theorem dX2_tradeFutures_42 : decode cX2_tradeFutures 42 = .ok (.invokestatic 77, 3) := by decide +kernel
theorem dX2_tradeFutures_45 : decode cX2_tradeFutures 45 = .ok (.ifCond .eq 15, 3) := by decide +kernel
theorem dX2_tradeFutures_48 : decode cX2_tradeFutures 48 = .ok (.iload 5, 2) := by decide +kernel
theorem dX2_tradeFutures_50 : decode cX2_tradeFutures 50 = .ok (.iconst 0, 1) := by decide +kernel
theorem dX2_tradeFutures_51 : decode cX2_tradeFutures 51 = .ok (.sipush 999, 3) := by decide +kernel
theorem dX2_tradeFutures_54 : decode cX2_tradeFutures 54 = .ok (.invokestatic 77, 3) := by decide +kernel
theorem dX2_tradeFutures_57 : decode cX2_tradeFutures 57 = .ok (.ifCond .ne 6, 3) := by decide +kernel
theorem dX2_tradeFutures_60 : decode cX2_tradeFutures 60 = .ok (.ldc 81, 2) := by decide +kernel
theorem dX2_tradeFutures_62 : decode cX2_tradeFutures 62 = .ok (.ireturn, 1) := by decide +kernel
theorem dX2_tradeFutures_63 : decode cX2_tradeFutures 63 = .ok (.aload 6, 2) := by decide +kernel
theorem dX2_tradeFutures_65 : decode cX2_tradeFutures 65 = .ok (.iload_n 2, 1) := by decide +kernel
theorem dX2_tradeFutures_66 : decode cX2_tradeFutures 66 = .ok (.invokevirtual 167, 3) := by decide +kernel
theorem dX2_tradeFutures_69 : decode cX2_tradeFutures 69 = .ok (.iload 4, 2) := by decide +kernel
theorem dX2_tradeFutures_71 : decode cX2_tradeFutures 71 = .ok (.if_icmp .ge 6, 3) := by decide +kernel
theorem dX2_tradeFutures_74 : decode cX2_tradeFutures 74 = .ok (.ldc 98, 2) := by decide +kernel
theorem dX2_tradeFutures_76 : decode cX2_tradeFutures 76 = .ok (.ireturn, 1) := by decide +kernel
theorem dX2_tradeFutures_77 : decode cX2_tradeFutures 77 = .ok (.aload 6, 2) := by decide +kernel
theorem dX2_tradeFutures_79 : decode cX2_tradeFutures 79 = .ok (.iload_n 2, 1) := by decide +kernel
theorem dX2_tradeFutures_80 : decode cX2_tradeFutures 80 = .ok (.iload 4, 2) := by decide +kernel
theorem dX2_tradeFutures_82 : decode cX2_tradeFutures 82 = .ok (.invokevirtual 147, 3) := by decide +kernel
theorem dX2_tradeFutures_85 : decode cX2_tradeFutures 85 = .ok (.pop, 1) := by decide +kernel
theorem dX2_tradeFutures_86 : decode cX2_tradeFutures 86 = .ok (.aload 6, 2) := by decide +kernel
theorem dX2_tradeFutures_88 : decode cX2_tradeFutures 88 = .ok (.iload_n 3, 1) := by decide +kernel
theorem dX2_tradeFutures_89 : decode cX2_tradeFutures 89 = .ok (.iload 4, 2) := by decide +kernel
theorem dX2_tradeFutures_91 : decode cX2_tradeFutures 91 = .ok (.iload 4, 2) := by decide +kernel
theorem dX2_tradeFutures_93 : decode cX2_tradeFutures 93 = .ok (.iload 5, 2) := by decide +kernel
theorem dX2_tradeFutures_95 : decode cX2_tradeFutures 95 = .ok (.imul, 1) := by decide +kernel
theorem dX2_tradeFutures_96 : decode cX2_tradeFutures 96 = .ok (.invokevirtual 163, 3) := by decide +kernel
theorem dX2_tradeFutures_99 : decode cX2_tradeFutures 99 = .ok (.aload_n 0, 1) := by decide +kernel
theorem dX2_tradeFutures_100 : decode cX2_tradeFutures 100 = .ok (.getfield 17, 3) := by decide +kernel
theorem dX2_tradeFutures_103 : decode cX2_tradeFutures 103 = .ok (.iload_n 2, 1) := by decide +kernel
theorem dX2_tradeFutures_104 : decode cX2_tradeFutures 104 = .ok (.dup2, 1) := by decide +kernel
theorem dX2_tradeFutures_105 : decode cX2_tradeFutures 105 = .ok (.iaload, 1) := by decide +kernel
theorem dX2_tradeFutures_106 : decode cX2_tradeFutures 106 = .ok (.iload 4, 2) := by decide +kernel
theorem dX2_tradeFutures_108 : decode cX2_tradeFutures 108 = .ok (.iload 5, 2) := by decide +kernel
theorem dX2_tradeFutures_110 : decode cX2_tradeFutures 110 = .ok (.imul, 1) := by decide +kernel
theorem dX2_tradeFutures_111 : decode cX2_tradeFutures 111 = .ok (.iadd, 1) := by decide +kernel
theorem dX2_tradeFutures_112 : decode cX2_tradeFutures 112 = .ok (.iastore, 1) := by decide +kernel
theorem dX2_tradeFutures_113 : decode cX2_tradeFutures 113 = .ok (.aload_n 0, 1) := by decide +kernel
theorem dX2_tradeFutures_114 : decode cX2_tradeFutures 114 = .ok (.getfield 17, 3) := by decide +kernel
theorem dX2_tradeFutures_117 : decode cX2_tradeFutures 117 = .ok (.iload_n 3, 1) := by decide +kernel
theorem dX2_tradeFutures_118 : decode cX2_tradeFutures 118 = .ok (.dup2, 1) := by decide +kernel
theorem dX2_tradeFutures_119 : decode cX2_tradeFutures 119 = .ok (.iaload, 1) := by decide +kernel
theorem dX2_tradeFutures_120 : decode cX2_tradeFutures 120 = .ok (.iload 4, 2) := by decide +kernel
theorem dX2_tradeFutures_122 : decode cX2_tradeFutures 122 = .ok (.iload 5, 2) := by decide +kernel
theorem dX2_tradeFutures_124 : decode cX2_tradeFutures 124 = .ok (.imul, 1) := by decide +kernel
theorem dX2_tradeFutures_125 : decode cX2_tradeFutures 125 = .ok (.isub, 1) := by decide +kernel
theorem dX2_tradeFutures_126 : decode cX2_tradeFutures 126 = .ok (.iastore, 1) := by decide +kernel
theorem dX2_tradeFutures_127 : decode cX2_tradeFutures 127 = .ok (.aload_n 0, 1) := by decide +kernel
theorem dX2_tradeFutures_128 : decode cX2_tradeFutures 128 = .ok (.getfield 24, 3) := by decide +kernel
theorem dX2_tradeFutures_131 : decode cX2_tradeFutures 131 = .ok (.iconst 1, 1) := by decide +kernel
theorem dX2_tradeFutures_132 : decode cX2_tradeFutures 132 = .ok (.iload_n 1, 1) := by decide +kernel
theorem dX2_tradeFutures_133 : decode cX2_tradeFutures 133 = .ok (.iload_n 3, 1) := by decide +kernel
theorem dX2_tradeFutures_134 : decode cX2_tradeFutures 134 = .ok (.iload 4, 2) := by decide +kernel
theorem dX2_tradeFutures_136 : decode cX2_tradeFutures 136 = .ok (.iload 5, 2) := by decide +kernel
theorem dX2_tradeFutures_138 : decode cX2_tradeFutures 138 = .ok (.iload_n 2, 1) := by decide +kernel
theorem dX2_tradeFutures_139 : decode cX2_tradeFutures 139 = .ok (.invokevirtual 155, 3) := by decide +kernel
theorem dX2_tradeFutures_142 : decode cX2_tradeFutures 142 = .ok (.aload 6, 2) := by decide +kernel
theorem dX2_tradeFutures_144 : decode cX2_tradeFutures 144 = .ok (.iload_n 3, 1) := by decide +kernel
theorem dX2_tradeFutures_145 : decode cX2_tradeFutures 145 = .ok (.invokevirtual 167, 3) := by decide +kernel
theorem dX2_tradeFutures_148 : decode cX2_tradeFutures 148 = .ok (.ireturn, 1) := by decide +kernel
theorem dX2_redeemFutures_0 : decode cX2_redeemFutures 0 = .ok (.aload_n 0, 1) := by decide +kernel
theorem dX2_redeemFutures_1 : decode cX2_redeemFutures 1 = .ok (.iload_n 1, 1) := by decide +kernel
theorem dX2_redeemFutures_2 : decode cX2_redeemFutures 2 = .ok (.invokevirtual 83, 3) := by decide +kernel
theorem dX2_redeemFutures_5 : decode cX2_redeemFutures 5 = .ok (.astore 4, 2) := by decide +kernel
theorem dX2_redeemFutures_7 : decode cX2_redeemFutures 7 = .ok (.aload 4, 2) := by decide +kernel
theorem dX2_redeemFutures_9 : decode cX2_redeemFutures 9 = .ok (.ifnull 22, 3) := by decide +kernel
theorem dX2_redeemFutures_12 : decode cX2_redeemFutures 12 = .ok (.aload_n 0, 1) := by decide +kernel
theorem dX2_redeemFutures_13 : decode cX2_redeemFutures 13 = .ok (.iload_n 2, 1) := by decide +kernel
theorem dX2_redeemFutures_14 : decode cX2_redeemFutures 14 = .ok (.invokevirtual 73, 3) := by decide +kernel
theorem dX2_redeemFutures_17 : decode cX2_redeemFutures 17 = .ok (.ifCond .eq 14, 3) := by decide +kernel
theorem dX2_redeemFutures_20 : decode cX2_redeemFutures 20 = .ok (.iload_n 3, 1) := by decide +kernel
theorem dX2_redeemFutures_21 : decode cX2_redeemFutures 21 = .ok (.iconst 1, 1) := by decide +kernel
theorem dX2_redeemFutures_22 : decode cX2_redeemFutures 22 = .ok (.sipush 999, 3) := by decide +kernel
theorem dX2_redeemFutures_25 : decode cX2_redeemFutures 25 = .ok (.invokestatic 77, 3) := by decide +kernel
theorem dX2_redeemFutures_28 : decode cX2_redeemFutures 28 = .ok (.ifCond .ne 6, 3) := by decide +kernel
theorem dX2_redeemFutures_31 : decode cX2_redeemFutures 31 = .ok (.ldc 81, 2) := by decide +kernel
theorem dX2_redeemFutures_33 : decode cX2_redeemFutures 33 = .ok (.ireturn, 1) := by decide +kernel
theorem dX2_redeemFutures_34 : decode cX2_redeemFutures 34 = .ok (.aload 4, 2) := by decide +kernel
theorem dX2_redeemFutures_36 : decode cX2_redeemFutures 36 = .ok (.getfield 126, 3) := by decide +kernel
theorem dX2_redeemFutures_39 : decode cX2_redeemFutures 39 = .ok (.ifCond .eq 13, 3) := by decide +kernel
theorem dX2_redeemFutures_42 : decode cX2_redeemFutures 42 = .ok (.aload 4, 2) := by decide +kernel
theorem dX2_redeemFutures_44 : decode cX2_redeemFutures 44 = .ok (.iload_n 2, 1) := by decide +kernel
theorem dX2_redeemFutures_45 : decode cX2_redeemFutures 45 = .ok (.invokevirtual 167, 3) := by decide +kernel
theorem dX2_redeemFutures_48 : decode cX2_redeemFutures 48 = .ok (.iload_n 3, 1) := by decide +kernel
theorem dX2_redeemFutures_49 : decode cX2_redeemFutures 49 = .ok (.if_icmp .ge 6, 3) := by decide +kernel
theorem dX2_redeemFutures_52 : decode cX2_redeemFutures 52 = .ok (.ldc 98, 2) := by decide +kernel
theorem dX2_redeemFutures_54 : decode cX2_redeemFutures 54 = .ok (.ireturn, 1) := by decide +kernel
theorem dX2_redeemFutures_55 : decode cX2_redeemFutures 55 = .ok (.aload 4, 2) := by decide +kernel
theorem dX2_redeemFutures_57 : decode cX2_redeemFutures 57 = .ok (.iload_n 2, 1) := by decide +kernel
theorem dX2_redeemFutures_58 : decode cX2_redeemFutures 58 = .ok (.iload_n 3, 1) := by decide +kernel
theorem dX2_redeemFutures_59 : decode cX2_redeemFutures 59 = .ok (.invokevirtual 170, 3) := by decide +kernel
theorem dX2_redeemFutures_62 : decode cX2_redeemFutures 62 = .ok (.aload_n 0, 1) := by decide +kernel
theorem dX2_redeemFutures_63 : decode cX2_redeemFutures 63 = .ok (.getfield 24, 3) := by decide +kernel
theorem dX2_redeemFutures_66 : decode cX2_redeemFutures 66 = .ok (.iconst 3, 1) := by decide +kernel
theorem dX2_redeemFutures_67 : decode cX2_redeemFutures 67 = .ok (.iload_n 1, 1) := by decide +kernel
theorem dX2_redeemFutures_68 : decode cX2_redeemFutures 68 = .ok (.iload_n 2, 1) := by decide +kernel
theorem dX2_redeemFutures_69 : decode cX2_redeemFutures 69 = .ok (.iload_n 3, 1) := by decide +kernel
theorem dX2_redeemFutures_70 : decode cX2_redeemFutures 70 = .ok (.ldc 154, 2) := by decide +kernel
theorem dX2_redeemFutures_72 : decode cX2_redeemFutures 72 = .ok (.ldc 154, 2) := by decide +kernel
theorem dX2_redeemFutures_74 : decode cX2_redeemFutures 74 = .ok (.invokevirtual 155, 3) := by decide +kernel
theorem dX2_redeemFutures_77 : decode cX2_redeemFutures 77 = .ok (.aload 4, 2) := by decide +kernel
theorem dX2_redeemFutures_79 : decode cX2_redeemFutures 79 = .ok (.invokevirtual 173, 3) := by decide +kernel
theorem dX2_redeemFutures_82 : decode cX2_redeemFutures 82 = .ok (.ireturn, 1) := by decide +kernel
theorem dX2_changeSetting_0 : decode cX2_changeSetting 0 = .ok (.iload_n 1, 1) := by decide +kernel
theorem dX2_changeSetting_1 : decode cX2_changeSetting 1 = .ok (.ifCond .ne 25, 3) := by decide +kernel
theorem dX2_changeSetting_4 : decode cX2_changeSetting 4 = .ok (.iload_n 2, 1) := by decide +kernel
theorem dX2_changeSetting_5 : decode cX2_changeSetting 5 = .ok (.iconst 0, 1) := by decide +kernel
theorem dX2_changeSetting_6 : decode cX2_changeSetting 6 = .ok (.bipush 100, 2) := by decide +kernel
theorem dX2_changeSetting_8 : decode cX2_changeSetting 8 = .ok (.invokestatic 77, 3) := by decide +kernel
theorem dX2_changeSetting_11 : decode cX2_changeSetting 11 = .ok (.ifCond .eq 15, 3) := by decide +kernel
theorem dX2_changeSetting_14 : decode cX2_changeSetting 14 = .ok (.aload_n 0, 1) := by decide +kernel
theorem dX2_changeSetting_15 : decode cX2_changeSetting 15 = .ok (.getfield 35, 3) := by decide +kernel
theorem dX2_changeSetting_18 : decode cX2_changeSetting 18 = .ok (.istore_n 3, 1) := by decide +kernel
theorem dX2_changeSetting_19 : decode cX2_changeSetting 19 = .ok (.aload_n 0, 1) := by decide +kernel
theorem dX2_changeSetting_20 : decode cX2_changeSetting 20 = .ok (.iload_n 2, 1) := by decide +kernel
theorem dX2_changeSetting_21 : decode cX2_changeSetting 21 = .ok (.putfield 35, 3) := by decide +kernel
theorem dX2_changeSetting_24 : decode cX2_changeSetting 24 = .ok (.iload_n 3, 1) := by decide +kernel
theorem dX2_changeSetting_25 : decode cX2_changeSetting 25 = .ok (.ireturn, 1) := by decide +kernel
theorem dX2_changeSetting_26 : decode cX2_changeSetting 26 = .ok (.iload_n 1, 1) := by decide +kernel
theorem dX2_changeSetting_27 : decode cX2_changeSetting 27 = .ok (.iconst 1, 1) := by decide +kernel
theorem dX2_changeSetting_28 : decode cX2_changeSetting 28 = .ok (.if_icmp .ne 25, 3) := by decide +kernel
theorem dX2_changeSetting_31 : decode cX2_changeSetting 31 = .ok (.iload_n 2, 1) := by decide +kernel
theorem dX2_changeSetting_32 : decode cX2_changeSetting 32 = .ok (.iconst 0, 1) := by decide +kernel
theorem dX2_changeSetting_33 : decode cX2_changeSetting 33 = .ok (.bipush 36, 2) := by decide +kernel
theorem dX2_changeSetting_35 : decode cX2_changeSetting 35 = .ok (.invokestatic 77, 3) := by decide +kernel
theorem dX2_changeSetting_38 : decode cX2_changeSetting 38 = .ok (.ifCond .eq 15, 3) := by decide +kernel
theorem dX2_changeSetting_41 : decode cX2_changeSetting 41 = .ok (.aload_n 0, 1) := by decide +kernel
theorem dX2_changeSetting_42 : decode cX2_changeSetting 42 = .ok (.getfield 39, 3) := by decide +kernel
theorem dX2_changeSetting_45 : decode cX2_changeSetting 45 = .ok (.istore_n 3, 1) := by decide +kernel
theorem dX2_changeSetting_46 : decode cX2_changeSetting 46 = .ok (.aload_n 0, 1) := by decide +kernel
theorem dX2_changeSetting_47 : decode cX2_changeSetting 47 = .ok (.iload_n 2, 1) := by decide +kernel
theorem dX2_changeSetting_48 : decode cX2_changeSetting 48 = .ok (.putfield 39, 3) := by decide +kernel
theorem dX2_changeSetting_51 : decode cX2_changeSetting 51 = .ok (.iload_n 3, 1) := by decide +kernel
theorem dX2_changeSetting_52 : decode cX2_changeSetting 52 = .ok (.ireturn, 1) := by decide +kernel
theorem dX2_changeSetting_53 : decode cX2_changeSetting 53 = .ok (.ldc 81, 2) := by decide +kernel
theorem dX2_changeSetting_55 : decode cX2_changeSetting 55 = .ok (.ireturn, 1) := by decide +kernel
theorem dX2_lotValue_0 : decode cX2_lotValue 0 = .ok (.aload_n 0, 1) := by decide +kernel
theorem dX2_lotValue_1 : decode cX2_lotValue 1 = .ok (.iload_n 1, 1) := by decide +kernel
theorem dX2_lotValue_2 : decode cX2_lotValue 2 = .ok (.invokevirtual 83, 3) := by decide +kernel
theorem dX2_lotValue_5 : decode cX2_lotValue 5 = .ok (.astore_n 3, 1) := by decide +kernel
theorem dX2_lotValue_6 : decode cX2_lotValue 6 = .ok (.aload_n 3, 1) := by decide +kernel
theorem dX2_lotValue_7 : decode cX2_lotValue 7 = .ok (.ifnonnull 6, 3) := by decide +kernel
theorem dX2_lotValue_10 : decode cX2_lotValue 10 = .ok (.ldc 81, 2) := by decide +kernel
theorem dX2_lotValue_12 : decode cX2_lotValue 12 = .ok (.ireturn, 1) := by decide +kernel
theorem dX2_lotValue_13 : decode cX2_lotValue 13 = .ok (.iload_n 2, 1) := by decide +kernel
theorem dX2_lotValue_14 : decode cX2_lotValue 14 = .ok (.tableswitch 139 0 9 #[54, 62, 70, 81, 86, 106, 111, 116, 121, 134], 54) := by decide +kernel
theorem dX2_lotValue_68 : decode cX2_lotValue 68 = .ok (.aload_n 3, 1) := by decide +kernel
theorem dX2_lotValue_69 : decode cX2_lotValue 69 = .ok (.getfield 87, 3) := by decide +kernel
theorem dX2_lotValue_72 : decode cX2_lotValue 72 = .ok (.getfield 119, 3) := by decide +kernel
theorem dX2_lotValue_75 : decode cX2_lotValue 75 = .ok (.ireturn, 1) := by decide +kernel
theorem dX2_lotValue_76 : decode cX2_lotValue 76 = .ok (.aload_n 3, 1) := by decide +kernel
theorem dX2_lotValue_77 : decode cX2_lotValue 77 = .ok (.getfield 87, 3) := by decide +kernel
theorem dX2_lotValue_80 : decode cX2_lotValue 80 = .ok (.getfield 176, 3) := by decide +kernel
theorem dX2_lotValue_83 : decode cX2_lotValue 83 = .ok (.ireturn, 1) := by decide +kernel
theorem dX2_lotValue_84 : decode cX2_lotValue 84 = .ok (.aload_n 3, 1) := by decide +kernel
theorem dX2_lotValue_85 : decode cX2_lotValue 85 = .ok (.getfield 87, 3) := by decide +kernel
theorem dX2_lotValue_88 : decode cX2_lotValue 88 = .ok (.getfield 179, 3) := by decide +kernel
theorem dX2_lotValue_91 : decode cX2_lotValue 91 = .ok (.invokestatic 182, 3) := by decide +kernel
theorem dX2_lotValue_94 : decode cX2_lotValue 94 = .ok (.ireturn, 1) := by decide +kernel
theorem dX2_lotValue_95 : decode cX2_lotValue 95 = .ok (.aload_n 3, 1) := by decide +kernel
theorem dX2_lotValue_96 : decode cX2_lotValue 96 = .ok (.invokevirtual 173, 3) := by decide +kernel
theorem dX2_lotValue_99 : decode cX2_lotValue 99 = .ok (.ireturn, 1) := by decide +kernel
theorem dX2_lotValue_100 : decode cX2_lotValue 100 = .ok (.aload_n 3, 1) := by decide +kernel
theorem dX2_lotValue_101 : decode cX2_lotValue 101 = .ok (.getfield 126, 3) := by decide +kernel
theorem dX2_lotValue_104 : decode cX2_lotValue 104 = .ok (.ifCond .eq 10, 3) := by decide +kernel
theorem dX2_lotValue_107 : decode cX2_lotValue 107 = .ok (.aload_n 3, 1) := by decide +kernel
theorem dX2_lotValue_108 : decode cX2_lotValue 108 = .ok (.getfield 140, 3) := by decide +kernel
theorem dX2_lotValue_111 : decode cX2_lotValue 111 = .ok (.goto 8, 3) := by decide +kernel
theorem dX2_lotValue_114 : decode cX2_lotValue 114 = .ok (.aload_n 0, 1) := by decide +kernel
theorem dX2_lotValue_115 : decode cX2_lotValue 115 = .ok (.aload_n 3, 1) := by decide +kernel
theorem dX2_lotValue_116 : decode cX2_lotValue 116 = .ok (.invokevirtual 159, 3) := by decide +kernel
theorem dX2_lotValue_119 : decode cX2_lotValue 119 = .ok (.ireturn, 1) := by decide +kernel
theorem dX2_lotValue_120 : decode cX2_lotValue 120 = .ok (.aload_n 3, 1) := by decide +kernel
theorem dX2_lotValue_121 : decode cX2_lotValue 121 = .ok (.invokevirtual 133, 3) := by decide +kernel
theorem dX2_lotValue_124 : decode cX2_lotValue 124 = .ok (.ireturn, 1) := by decide +kernel
theorem dX2_lotValue_125 : decode cX2_lotValue 125 = .ok (.aload_n 3, 1) := by decide +kernel
theorem dX2_lotValue_126 : decode cX2_lotValue 126 = .ok (.invokevirtual 109, 3) := by decide +kernel
theorem dX2_lotValue_129 : decode cX2_lotValue 129 = .ok (.ireturn, 1) := by decide +kernel
theorem dX2_lotValue_130 : decode cX2_lotValue 130 = .ok (.aload_n 3, 1) := by decide +kernel
theorem dX2_lotValue_131 : decode cX2_lotValue 131 = .ok (.getfield 106, 3) := by decide +kernel
theorem dX2_lotValue_134 : decode cX2_lotValue 134 = .ok (.ireturn, 1) := by decide +kernel
theorem dX2_lotValue_135 : decode cX2_lotValue 135 = .ok (.aload_n 3, 1) := by decide +kernel
theorem dX2_lotValue_136 : decode cX2_lotValue 136 = .ok (.getfield 126, 3) := by decide +kernel
theorem dX2_lotValue_139 : decode cX2_lotValue 139 = .ok (.ifCond .eq 7, 3) := by decide +kernel
theorem dX2_lotValue_142 : decode cX2_lotValue 142 = .ok (.iconst 1, 1) := by decide +kernel
theorem dX2_lotValue_143 : decode cX2_lotValue 143 = .ok (.goto 4, 3) := by decide +kernel
theorem dX2_lotValue_146 : decode cX2_lotValue 146 = .ok (.iconst 0, 1) := by decide +kernel
theorem dX2_lotValue_147 : decode cX2_lotValue 147 = .ok (.ireturn, 1) := by decide +kernel
theorem dX2_lotValue_148 : decode cX2_lotValue 148 = .ok (.aload_n 3, 1) := by decide +kernel
theorem dX2_lotValue_149 : decode cX2_lotValue 149 = .ok (.invokevirtual 186, 3) := by decide +kernel
theorem dX2_lotValue_152 : decode cX2_lotValue 152 = .ok (.ireturn, 1) := by decide +kernel
theorem dX2_lotValue_153 : decode cX2_lotValue 153 = .ok (.ldc 81, 2) := by decide +kernel
theorem dX2_lotValue_155 : decode cX2_lotValue 155 = .ok (.ireturn, 1) := by decide +kernel
theorem dX2_barrelValue_0 : decode cX2_barrelValue 0 = .ok (.aload_n 0, 1) := by decide +kernel
theorem dX2_barrelValue_1 : decode cX2_barrelValue 1 = .ok (.iload_n 1, 1) := by decide +kernel
theorem dX2_barrelValue_2 : decode cX2_barrelValue 2 = .ok (.invokevirtual 83, 3) := by decide +kernel
theorem dX2_barrelValue_5 : decode cX2_barrelValue 5 = .ok (.astore_n 3, 1) := by decide +kernel
theorem dX2_barrelValue_6 : decode cX2_barrelValue 6 = .ok (.aload_n 3, 1) := by decide +kernel
theorem dX2_barrelValue_7 : decode cX2_barrelValue 7 = .ok (.ifnull 7, 3) := by decide +kernel
theorem dX2_barrelValue_10 : decode cX2_barrelValue 10 = .ok (.iload_n 2, 1) := by decide +kernel
theorem dX2_barrelValue_11 : decode cX2_barrelValue 11 = .ok (.ifCond .ge 6, 3) := by decide +kernel
theorem dX2_barrelValue_14 : decode cX2_barrelValue 14 = .ok (.ldc 81, 2) := by decide +kernel
theorem dX2_barrelValue_16 : decode cX2_barrelValue 16 = .ok (.ireturn, 1) := by decide +kernel
theorem dX2_barrelValue_17 : decode cX2_barrelValue 17 = .ok (.iload_n 2, 1) := by decide +kernel
theorem dX2_barrelValue_18 : decode cX2_barrelValue 18 = .ok (.aload_n 3, 1) := by decide +kernel
theorem dX2_barrelValue_19 : decode cX2_barrelValue 19 = .ok (.getfield 87, 3) := by decide +kernel
theorem dX2_barrelValue_22 : decode cX2_barrelValue 22 = .ok (.getfield 119, 3) := by decide +kernel
theorem dX2_barrelValue_25 : decode cX2_barrelValue 25 = .ok (.if_icmp .ge 15, 3) := by decide +kernel
theorem dX2_barrelValue_28 : decode cX2_barrelValue 28 = .ok (.iload_n 2, 1) := by decide +kernel
theorem dX2_barrelValue_29 : decode cX2_barrelValue 29 = .ok (.aload_n 3, 1) := by decide +kernel
theorem dX2_barrelValue_30 : decode cX2_barrelValue 30 = .ok (.getfield 87, 3) := by decide +kernel
theorem dX2_barrelValue_33 : decode cX2_barrelValue 33 = .ok (.getfield 179, 3) := by decide +kernel
theorem dX2_barrelValue_36 : decode cX2_barrelValue 36 = .ok (.arraylength, 1) := by decide +kernel
theorem dX2_barrelValue_37 : decode cX2_barrelValue 37 = .ok (.if_icmp .lt 6, 3) := by decide +kernel
theorem dX2_barrelValue_40 : decode cX2_barrelValue 40 = .ok (.ldc 154, 2) := by decide +kernel
theorem dX2_barrelValue_42 : decode cX2_barrelValue 42 = .ok (.ireturn, 1) := by decide +kernel
theorem dX2_barrelValue_43 : decode cX2_barrelValue 43 = .ok (.aload_n 3, 1) := by decide +kernel
theorem dX2_barrelValue_44 : decode cX2_barrelValue 44 = .ok (.getfield 87, 3) := by decide +kernel
theorem dX2_barrelValue_47 : decode cX2_barrelValue 47 = .ok (.getfield 179, 3) := by decide +kernel
theorem dX2_barrelValue_50 : decode cX2_barrelValue 50 = .ok (.iload_n 2, 1) := by decide +kernel
theorem dX2_barrelValue_51 : decode cX2_barrelValue 51 = .ok (.iaload, 1) := by decide +kernel
theorem dX2_barrelValue_52 : decode cX2_barrelValue 52 = .ok (.ireturn, 1) := by decide +kernel
theorem dX2_holdingValue_0 : decode cX2_holdingValue 0 = .ok (.aload_n 0, 1) := by decide +kernel
theorem dX2_holdingValue_1 : decode cX2_holdingValue 1 = .ok (.iload_n 2, 1) := by decide +kernel
theorem dX2_holdingValue_2 : decode cX2_holdingValue 2 = .ok (.invokevirtual 83, 3) := by decide +kernel
theorem dX2_holdingValue_5 : decode cX2_holdingValue 5 = .ok (.astore 4, 2) := by decide +kernel
theorem dX2_holdingValue_7 : decode cX2_holdingValue 7 = .ok (.aload 4, 2) := by decide +kernel
theorem dX2_holdingValue_9 : decode cX2_holdingValue 9 = .ok (.ifnull 11, 3) := by decide +kernel
theorem dX2_holdingValue_12 : decode cX2_holdingValue 12 = .ok (.aload_n 0, 1) := by decide +kernel
theorem dX2_holdingValue_13 : decode cX2_holdingValue 13 = .ok (.iload_n 1, 1) := by decide +kernel
theorem dX2_holdingValue_14 : decode cX2_holdingValue 14 = .ok (.invokevirtual 73, 3) := by decide +kernel
theorem dX2_holdingValue_17 : decode cX2_holdingValue 17 = .ok (.ifCond .ne 6, 3) := by decide +kernel
theorem dX2_holdingValue_20 : decode cX2_holdingValue 20 = .ok (.ldc 81, 2) := by decide +kernel
theorem dX2_holdingValue_22 : decode cX2_holdingValue 22 = .ok (.ireturn, 1) := by decide +kernel
theorem dX2_holdingValue_23 : decode cX2_holdingValue 23 = .ok (.iload_n 3, 1) := by decide +kernel
theorem dX2_holdingValue_24 : decode cX2_holdingValue 24 = .ok (.tableswitch 70 0 3 #[32, 39, 46, 53], 32) := by decide +kernel
theorem dX2_holdingValue_56 : decode cX2_holdingValue 56 = .ok (.aload 4, 2) := by decide +kernel
theorem dX2_holdingValue_58 : decode cX2_holdingValue 58 = .ok (.iload_n 1, 1) := by decide +kernel
theorem dX2_holdingValue_59 : decode cX2_holdingValue 59 = .ok (.invokevirtual 167, 3) := by decide +kernel
theorem dX2_holdingValue_62 : decode cX2_holdingValue 62 = .ok (.ireturn, 1) := by decide +kernel
theorem dX2_holdingValue_63 : decode cX2_holdingValue 63 = .ok (.aload 4, 2) := by decide +kernel
theorem dX2_holdingValue_65 : decode cX2_holdingValue 65 = .ok (.iload_n 1, 1) := by decide +kernel
theorem dX2_holdingValue_66 : decode cX2_holdingValue 66 = .ok (.invokevirtual 189, 3) := by decide +kernel
theorem dX2_holdingValue_69 : decode cX2_holdingValue 69 = .ok (.ireturn, 1) := by decide +kernel
theorem dX2_holdingValue_70 : decode cX2_holdingValue 70 = .ok (.aload 4, 2) := by decide +kernel
theorem dX2_holdingValue_72 : decode cX2_holdingValue 72 = .ok (.iload_n 1, 1) := by decide +kernel
theorem dX2_holdingValue_73 : decode cX2_holdingValue 73 = .ok (.invokevirtual 192, 3) := by decide +kernel
theorem dX2_holdingValue_76 : decode cX2_holdingValue 76 = .ok (.ireturn, 1) := by decide +kernel
theorem dX2_holdingValue_77 : decode cX2_holdingValue 77 = .ok (.aload_n 0, 1) := by decide +kernel
theorem dX2_holdingValue_78 : decode cX2_holdingValue 78 = .ok (.aload 4, 2) := by decide +kernel
theorem dX2_holdingValue_80 : decode cX2_holdingValue 80 = .ok (.iload_n 1, 1) := by decide +kernel
theorem dX2_holdingValue_81 : decode cX2_holdingValue 81 = .ok (.invokevirtual 189, 3) := by decide +kernel
theorem dX2_holdingValue_84 : decode cX2_holdingValue 84 = .ok (.aload 4, 2) := by decide +kernel
theorem dX2_holdingValue_86 : decode cX2_holdingValue 86 = .ok (.iload_n 1, 1) := by decide +kernel
theorem dX2_holdingValue_87 : decode cX2_holdingValue 87 = .ok (.invokevirtual 167, 3) := by decide +kernel
theorem dX2_holdingValue_90 : decode cX2_holdingValue 90 = .ok (.invokevirtual 195, 3) := by decide +kernel
theorem dX2_holdingValue_93 : decode cX2_holdingValue 93 = .ok (.ireturn, 1) := by decide +kernel
theorem dX2_holdingValue_94 : decode cX2_holdingValue 94 = .ok (.ldc 81, 2) := by decide +kernel
theorem dX2_holdingValue_96 : decode cX2_holdingValue 96 = .ok (.ireturn, 1) := by decide +kernel
theorem dX2_meanPaid_0 : decode cX2_meanPaid 0 = .ok (.iload_n 2, 1) := by decide +kernel
theorem dX2_meanPaid_1 : decode cX2_meanPaid 1 = .ok (.ifCond .gt 6, 3) := by decide +kernel
theorem dX2_meanPaid_4 : decode cX2_meanPaid 4 = .ok (.ldc 154, 2) := by decide +kernel
theorem dX2_meanPaid_6 : decode cX2_meanPaid 6 = .ok (.ireturn, 1) := by decide +kernel
theorem dX2_meanPaid_7 : decode cX2_meanPaid 7 = .ok (.iload_n 1, 1) := by decide +kernel
theorem dX2_meanPaid_8 : decode cX2_meanPaid 8 = .ok (.i2f, 1) := by decide +kernel
theorem dX2_meanPaid_9 : decode cX2_meanPaid 9 = .ok (.iload_n 2, 1) := by decide +kernel
theorem dX2_meanPaid_10 : decode cX2_meanPaid 10 = .ok (.i2f, 1) := by decide +kernel
theorem dX2_meanPaid_11 : decode cX2_meanPaid 11 = .ok (.fdiv, 1) := by decide +kernel
theorem dX2_meanPaid_12 : decode cX2_meanPaid 12 = .ok (.invokestatic 198, 3) := by decide +kernel
theorem dX2_meanPaid_15 : decode cX2_meanPaid 15 = .ok (.ireturn, 1) := by decide +kernel
theorem dX2_accountValue_0 : decode cX2_accountValue 0 = .ok (.iload_n 1, 1) := by decide +kernel
theorem dX2_accountValue_1 : decode cX2_accountValue 1 = .ok (.iconst (-1), 1) := by decide +kernel
theorem dX2_accountValue_2 : decode cX2_accountValue 2 = .ok (.if_icmp .ne 8, 3) := by decide +kernel
theorem dX2_accountValue_5 : decode cX2_accountValue 5 = .ok (.aload_n 0, 1) := by decide +kernel
theorem dX2_accountValue_6 : decode cX2_accountValue 6 = .ok (.getfield 61, 3) := by decide +kernel
theorem dX2_accountValue_9 : decode cX2_accountValue 9 = .ok (.ireturn, 1) := by decide +kernel
theorem dX2_accountValue_10 : decode cX2_accountValue 10 = .ok (.aload_n 0, 1) := by decide +kernel
theorem dX2_accountValue_11 : decode cX2_accountValue 11 = .ok (.iload_n 1, 1) := by decide +kernel
theorem dX2_accountValue_12 : decode cX2_accountValue 12 = .ok (.invokevirtual 73, 3) := by decide +kernel
theorem dX2_accountValue_15 : decode cX2_accountValue 15 = .ok (.ifCond .eq 12, 3) := by decide +kernel
theorem dX2_accountValue_18 : decode cX2_accountValue 18 = .ok (.aload_n 0, 1) := by decide +kernel
theorem dX2_accountValue_19 : decode cX2_accountValue 19 = .ok (.getfield 17, 3) := by decide +kernel
theorem dX2_accountValue_22 : decode cX2_accountValue 22 = .ok (.iload_n 1, 1) := by decide +kernel
theorem dX2_accountValue_23 : decode cX2_accountValue 23 = .ok (.iaload, 1) := by decide +kernel
theorem dX2_accountValue_24 : decode cX2_accountValue 24 = .ok (.goto 5, 3) := by decide +kernel
theorem dX2_accountValue_27 : decode cX2_accountValue 27 = .ok (.ldc 81, 2) := by decide +kernel
theorem dX2_accountValue_29 : decode cX2_accountValue 29 = .ok (.ireturn, 1) := by decide +kernel
theorem dX2_number_0 : decode cX2_number 0 = .ok (.iload_n 1, 1) := by decide +kernel
theorem dX2_number_1 : decode cX2_number 1 = .ok (.tableswitch 178 0 21 #[103, 108, 113, 118, 131, 137, 142, 148, 155, 160, 178, 178, 178, 178, 178, 178, 178, 178, 178, 178, 168, 173], 103) := by decide +kernel
theorem dX2_number_104 : decode cX2_number 104 = .ok (.aload_n 0, 1) := by decide +kernel
theorem dX2_number_105 : decode cX2_number 105 = .ok (.getfield 55, 3) := by decide +kernel
theorem dX2_number_108 : decode cX2_number 108 = .ok (.ireturn, 1) := by decide +kernel
theorem dX2_number_109 : decode cX2_number 109 = .ok (.aload_n 0, 1) := by decide +kernel
theorem dX2_number_110 : decode cX2_number 110 = .ok (.getfield 58, 3) := by decide +kernel
theorem dX2_number_113 : decode cX2_number 113 = .ok (.ireturn, 1) := by decide +kernel
theorem dX2_number_114 : decode cX2_number 114 = .ok (.aload_n 0, 1) := by decide +kernel
theorem dX2_number_115 : decode cX2_number 115 = .ok (.getfield 64, 3) := by decide +kernel
theorem dX2_number_118 : decode cX2_number 118 = .ok (.ireturn, 1) := by decide +kernel
theorem dX2_number_119 : decode cX2_number 119 = .ok (.aload_n 0, 1) := by decide +kernel
theorem dX2_number_120 : decode cX2_number 120 = .ok (.getfield 61, 3) := by decide +kernel
theorem dX2_number_123 : decode cX2_number 123 = .ok (.aload_n 0, 1) := by decide +kernel
theorem dX2_number_124 : decode cX2_number 124 = .ok (.getfield 17, 3) := by decide +kernel
theorem dX2_number_127 : decode cX2_number 127 = .ok (.invokestatic 182, 3) := by decide +kernel
theorem dX2_number_130 : decode cX2_number 130 = .ok (.iadd, 1) := by decide +kernel
theorem dX2_number_131 : decode cX2_number 131 = .ok (.ireturn, 1) := by decide +kernel
theorem dX2_number_132 : decode cX2_number 132 = .ok (.aload_n 0, 1) := by decide +kernel
theorem dX2_number_133 : decode cX2_number 133 = .ok (.iconst 2, 1) := by decide +kernel
theorem dX2_number_134 : decode cX2_number 134 = .ok (.invokevirtual 202, 3) := by decide +kernel
theorem dX2_number_137 : decode cX2_number 137 = .ok (.ireturn, 1) := by decide +kernel
theorem dX2_number_138 : decode cX2_number 138 = .ok (.aload_n 0, 1) := by decide +kernel
theorem dX2_number_139 : decode cX2_number 139 = .ok (.getfield 67, 3) := by decide +kernel
theorem dX2_number_142 : decode cX2_number 142 = .ok (.ireturn, 1) := by decide +kernel
theorem dX2_number_143 : decode cX2_number 143 = .ok (.aload_n 0, 1) := by decide +kernel
theorem dX2_number_144 : decode cX2_number 144 = .ok (.iconst 5, 1) := by decide +kernel
theorem dX2_number_145 : decode cX2_number 145 = .ok (.invokevirtual 202, 3) := by decide +kernel
theorem dX2_number_148 : decode cX2_number 148 = .ok (.ireturn, 1) := by decide +kernel
theorem dX2_number_149 : decode cX2_number 149 = .ok (.aload_n 0, 1) := by decide +kernel
theorem dX2_number_150 : decode cX2_number 150 = .ok (.bipush 9, 2) := by decide +kernel
theorem dX2_number_152 : decode cX2_number 152 = .ok (.invokevirtual 202, 3) := by decide +kernel
theorem dX2_number_155 : decode cX2_number 155 = .ok (.ireturn, 1) := by decide +kernel
theorem dX2_number_156 : decode cX2_number 156 = .ok (.aload_n 0, 1) := by decide +kernel
theorem dX2_number_157 : decode cX2_number 157 = .ok (.getfield 70, 3) := by decide +kernel
theorem dX2_number_160 : decode cX2_number 160 = .ok (.ireturn, 1) := by decide +kernel
theorem dX2_number_161 : decode cX2_number 161 = .ok (.aload_n 0, 1) := by decide +kernel
theorem dX2_number_162 : decode cX2_number 162 = .ok (.getfield 24, 3) := by decide +kernel
theorem dX2_number_165 : decode cX2_number 165 = .ok (.getfield 205, 3) := by decide +kernel
theorem dX2_number_168 : decode cX2_number 168 = .ok (.ireturn, 1) := by decide +kernel
theorem dX2_number_169 : decode cX2_number 169 = .ok (.aload_n 0, 1) := by decide +kernel
theorem dX2_number_170 : decode cX2_number 170 = .ok (.getfield 35, 3) := by decide +kernel
theorem dX2_number_173 : decode cX2_number 173 = .ok (.ireturn, 1) := by decide +kernel
theorem dX2_number_174 : decode cX2_number 174 = .ok (.aload_n 0, 1) := by decide +kernel
theorem dX2_number_175 : decode cX2_number 175 = .ok (.getfield 39, 3) := by decide +kernel
theorem dX2_number_178 : decode cX2_number 178 = .ok (.ireturn, 1) := by decide +kernel
theorem dX2_number_179 : decode cX2_number 179 = .ok (.ldc 81, 2) := by decide +kernel
theorem dX2_number_181 : decode cX2_number 181 = .ok (.ireturn, 1) := by decide +kernel
theorem dX2_totalOfLots_0 : decode cX2_totalOfLots 0 = .ok (.iconst 0, 1) := by decide +kernel
theorem dX2_totalOfLots_1 : decode cX2_totalOfLots 1 = .ok (.istore_n 2, 1) := by decide +kernel
theorem dX2_totalOfLots_2 : decode cX2_totalOfLots 2 = .ok (.iconst 0, 1) := by decide +kernel
theorem dX2_totalOfLots_3 : decode cX2_totalOfLots 3 = .ok (.istore_n 3, 1) := by decide +kernel
theorem dX2_totalOfLots_4 : decode cX2_totalOfLots 4 = .ok (.iload_n 3, 1) := by decide +kernel
theorem dX2_totalOfLots_5 : decode cX2_totalOfLots 5 = .ok (.aload_n 0, 1) := by decide +kernel
theorem dX2_totalOfLots_6 : decode cX2_totalOfLots 6 = .ok (.getfield 55, 3) := by decide +kernel
theorem dX2_totalOfLots_9 : decode cX2_totalOfLots 9 = .ok (.if_icmp .ge 18, 3) := by decide +kernel
theorem dX2_totalOfLots_12 : decode cX2_totalOfLots 12 = .ok (.iload_n 2, 1) := by decide +kernel
theorem dX2_totalOfLots_13 : decode cX2_totalOfLots 13 = .ok (.aload_n 0, 1) := by decide +kernel
theorem dX2_totalOfLots_14 : decode cX2_totalOfLots 14 = .ok (.iload_n 3, 1) := by decide +kernel
theorem dX2_totalOfLots_15 : decode cX2_totalOfLots 15 = .ok (.iload_n 1, 1) := by decide +kernel
theorem dX2_totalOfLots_16 : decode cX2_totalOfLots 16 = .ok (.invokevirtual 208, 3) := by decide +kernel
theorem dX2_totalOfLots_19 : decode cX2_totalOfLots 19 = .ok (.iadd, 1) := by decide +kernel
theorem dX2_totalOfLots_20 : decode cX2_totalOfLots 20 = .ok (.istore_n 2, 1) := by decide +kernel
theorem dX2_totalOfLots_21 : decode cX2_totalOfLots 21 = .ok (.iinc 3 1, 3) := by decide +kernel
theorem dX2_totalOfLots_24 : decode cX2_totalOfLots 24 = .ok (.goto (-20), 3) := by decide +kernel
theorem dX2_totalOfLots_27 : decode cX2_totalOfLots 27 = .ok (.iload_n 2, 1) := by decide +kernel
theorem dX2_totalOfLots_28 : decode cX2_totalOfLots 28 = .ok (.ireturn, 1) := by decide +kernel
theorem dX2_expectedCases_0 : decode cX2_expectedCases 0 = .ok (.aload_n 1, 1) := by decide +kernel
theorem dX2_expectedCases_1 : decode cX2_expectedCases 1 = .ok (.getfield 87, 3) := by decide +kernel
theorem dX2_expectedCases_4 : decode cX2_expectedCases 4 = .ok (.aload_n 0, 1) := by decide +kernel
theorem dX2_expectedCases_5 : decode cX2_expectedCases 5 = .ok (.getfield 39, 3) := by decide +kernel
theorem dX2_expectedCases_8 : decode cX2_expectedCases 8 = .ok (.invokevirtual 211, 3) := by decide +kernel
theorem dX2_expectedCases_11 : decode cX2_expectedCases 11 = .ok (.bipush 100, 2) := by decide +kernel
theorem dX2_expectedCases_13 : decode cX2_expectedCases 13 = .ok (.aload_n 0, 1) := by decide +kernel
theorem dX2_expectedCases_14 : decode cX2_expectedCases 14 = .ok (.getfield 35, 3) := by decide +kernel
theorem dX2_expectedCases_17 : decode cX2_expectedCases 17 = .ok (.isub, 1) := by decide +kernel
theorem dX2_expectedCases_18 : decode cX2_expectedCases 18 = .ok (.imul, 1) := by decide +kernel
theorem dX2_expectedCases_19 : decode cX2_expectedCases 19 = .ok (.bipush 100, 2) := by decide +kernel
theorem dX2_expectedCases_21 : decode cX2_expectedCases 21 = .ok (.idiv, 1) := by decide +kernel
theorem dX2_expectedCases_22 : decode cX2_expectedCases 22 = .ok (.ireturn, 1) := by decide +kernel
theorem dX2_forecastCases_0 : decode cX2_forecastCases 0 = .ok (.aload_n 0, 1) := by decide +kernel
theorem dX2_forecastCases_1 : decode cX2_forecastCases 1 = .ok (.iload_n 1, 1) := by decide +kernel
theorem dX2_forecastCases_2 : decode cX2_forecastCases 2 = .ok (.invokevirtual 83, 3) := by decide +kernel
theorem dX2_forecastCases_5 : decode cX2_forecastCases 5 = .ok (.astore_n 3, 1) := by decide +kernel
theorem dX2_forecastCases_6 : decode cX2_forecastCases 6 = .ok (.aload_n 3, 1) := by decide +kernel
theorem dX2_forecastCases_7 : decode cX2_forecastCases 7 = .ok (.ifnull 13, 3) := by decide +kernel
theorem dX2_forecastCases_10 : decode cX2_forecastCases 10 = .ok (.iload_n 2, 1) := by decide +kernel
theorem dX2_forecastCases_11 : decode cX2_forecastCases 11 = .ok (.iconst 0, 1) := by decide +kernel
theorem dX2_forecastCases_12 : decode cX2_forecastCases 12 = .ok (.bipush 120, 2) := by decide +kernel
theorem dX2_forecastCases_14 : decode cX2_forecastCases 14 = .ok (.invokestatic 77, 3) := by decide +kernel
theorem dX2_forecastCases_17 : decode cX2_forecastCases 17 = .ok (.ifCond .ne 6, 3) := by decide +kernel
theorem dX2_forecastCases_20 : decode cX2_forecastCases 20 = .ok (.ldc 81, 2) := by decide +kernel
theorem dX2_forecastCases_22 : decode cX2_forecastCases 22 = .ok (.ireturn, 1) := by decide +kernel
theorem dX2_forecastCases_23 : decode cX2_forecastCases 23 = .ok (.aload_n 3, 1) := by decide +kernel
theorem dX2_forecastCases_24 : decode cX2_forecastCases 24 = .ok (.getfield 126, 3) := by decide +kernel
theorem dX2_forecastCases_27 : decode cX2_forecastCases 27 = .ok (.ifCond .eq 8, 3) := by decide +kernel
theorem dX2_forecastCases_30 : decode cX2_forecastCases 30 = .ok (.ldc 98, 2) := by decide +kernel
theorem dX2_forecastCases_32 : decode cX2_forecastCases 32 = .ok (.goto 11, 3) := by decide +kernel
theorem dX2_forecastCases_35 : decode cX2_forecastCases 35 = .ok (.aload_n 3, 1) := by decide +kernel
theorem dX2_forecastCases_36 : decode cX2_forecastCases 36 = .ok (.getfield 87, 3) := by decide +kernel
theorem dX2_forecastCases_39 : decode cX2_forecastCases 39 = .ok (.iload_n 2, 1) := by decide +kernel
theorem dX2_forecastCases_40 : decode cX2_forecastCases 40 = .ok (.invokevirtual 211, 3) := by decide +kernel
theorem dX2_forecastCases_43 : decode cX2_forecastCases 43 = .ok (.ireturn, 1) := by decide +kernel
theorem dX2_sellableFutures_0 : decode cX2_sellableFutures 0 = .ok (.aload_n 0, 1) := by decide +kernel
theorem dX2_sellableFutures_1 : decode cX2_sellableFutures 1 = .ok (.iload_n 1, 1) := by decide +kernel
theorem dX2_sellableFutures_2 : decode cX2_sellableFutures 2 = .ok (.invokevirtual 83, 3) := by decide +kernel
theorem dX2_sellableFutures_5 : decode cX2_sellableFutures 5 = .ok (.astore_n 2, 1) := by decide +kernel
theorem dX2_sellableFutures_6 : decode cX2_sellableFutures 6 = .ok (.aload_n 2, 1) := by decide +kernel
theorem dX2_sellableFutures_7 : decode cX2_sellableFutures 7 = .ok (.ifnonnull 6, 3) := by decide +kernel
theorem dX2_sellableFutures_10 : decode cX2_sellableFutures 10 = .ok (.ldc 81, 2) := by decide +kernel
theorem dX2_sellableFutures_12 : decode cX2_sellableFutures 12 = .ok (.ireturn, 1) := by decide +kernel
theorem dX2_sellableFutures_13 : decode cX2_sellableFutures 13 = .ok (.aload_n 2, 1) := by decide +kernel
theorem dX2_sellableFutures_14 : decode cX2_sellableFutures 14 = .ok (.getfield 126, 3) := by decide +kernel
theorem dX2_sellableFutures_17 : decode cX2_sellableFutures 17 = .ok (.ifCond .eq 8, 3) := by decide +kernel
theorem dX2_sellableFutures_20 : decode cX2_sellableFutures 20 = .ok (.ldc 98, 2) := by decide +kernel
theorem dX2_sellableFutures_22 : decode cX2_sellableFutures 22 = .ok (.goto 17, 3) := by decide +kernel
theorem dX2_sellableFutures_25 : decode cX2_sellableFutures 25 = .ok (.iconst 0, 1) := by decide +kernel
theorem dX2_sellableFutures_26 : decode cX2_sellableFutures 26 = .ok (.aload_n 0, 1) := by decide +kernel
theorem dX2_sellableFutures_27 : decode cX2_sellableFutures 27 = .ok (.aload_n 2, 1) := by decide +kernel
theorem dX2_sellableFutures_28 : decode cX2_sellableFutures 28 = .ok (.invokevirtual 159, 3) := by decide +kernel
theorem dX2_sellableFutures_31 : decode cX2_sellableFutures 31 = .ok (.aload_n 2, 1) := by decide +kernel
theorem dX2_sellableFutures_32 : decode cX2_sellableFutures 32 = .ok (.invokevirtual 133, 3) := by decide +kernel
theorem dX2_sellableFutures_35 : decode cX2_sellableFutures 35 = .ok (.isub, 1) := by decide +kernel
theorem dX2_sellableFutures_36 : decode cX2_sellableFutures 36 = .ok (.invokestatic 214, 3) := by decide +kernel
theorem dX2_sellableFutures_39 : decode cX2_sellableFutures 39 = .ok (.ireturn, 1) := by decide +kernel
theorem dX2_monthsUntilTooFew_0 : decode cX2_monthsUntilTooFew 0 = .ok (.aload_n 0, 1) := by decide +kernel
theorem dX2_monthsUntilTooFew_1 : decode cX2_monthsUntilTooFew 1 = .ok (.iload_n 1, 1) := by decide +kernel
theorem dX2_monthsUntilTooFew_2 : decode cX2_monthsUntilTooFew 2 = .ok (.invokevirtual 83, 3) := by decide +kernel
theorem dX2_monthsUntilTooFew_5 : decode cX2_monthsUntilTooFew 5 = .ok (.astore_n 2, 1) := by decide +kernel
theorem dX2_monthsUntilTooFew_6 : decode cX2_monthsUntilTooFew 6 = .ok (.aload_n 2, 1) := by decide +kernel
theorem dX2_monthsUntilTooFew_7 : decode cX2_monthsUntilTooFew 7 = .ok (.ifnonnull 6, 3) := by decide +kernel
theorem dX2_monthsUntilTooFew_10 : decode cX2_monthsUntilTooFew 10 = .ok (.ldc 81, 2) := by decide +kernel
theorem dX2_monthsUntilTooFew_12 : decode cX2_monthsUntilTooFew 12 = .ok (.ireturn, 1) := by decide +kernel
theorem dX2_monthsUntilTooFew_13 : decode cX2_monthsUntilTooFew 13 = .ok (.aload_n 2, 1) := by decide +kernel
theorem dX2_monthsUntilTooFew_14 : decode cX2_monthsUntilTooFew 14 = .ok (.getfield 126, 3) := by decide +kernel
theorem dX2_monthsUntilTooFew_17 : decode cX2_monthsUntilTooFew 17 = .ok (.ifCond .eq 6, 3) := by decide +kernel
theorem dX2_monthsUntilTooFew_20 : decode cX2_monthsUntilTooFew 20 = .ok (.ldc 98, 2) := by decide +kernel
theorem dX2_monthsUntilTooFew_22 : decode cX2_monthsUntilTooFew 22 = .ok (.ireturn, 1) := by decide +kernel
theorem dX2_monthsUntilTooFew_23 : decode cX2_monthsUntilTooFew 23 = .ok (.aload_n 2, 1) := by decide +kernel
theorem dX2_monthsUntilTooFew_24 : decode cX2_monthsUntilTooFew 24 = .ok (.invokevirtual 133, 3) := by decide +kernel
theorem dX2_monthsUntilTooFew_27 : decode cX2_monthsUntilTooFew 27 = .ok (.istore_n 3, 1) := by decide +kernel
theorem dX2_monthsUntilTooFew_28 : decode cX2_monthsUntilTooFew 28 = .ok (.aload_n 0, 1) := by decide +kernel
theorem dX2_monthsUntilTooFew_29 : decode cX2_monthsUntilTooFew 29 = .ok (.getfield 31, 3) := by decide +kernel
theorem dX2_monthsUntilTooFew_32 : decode cX2_monthsUntilTooFew 32 = .ok (.aload_n 2, 1) := by decide +kernel
theorem dX2_monthsUntilTooFew_33 : decode cX2_monthsUntilTooFew 33 = .ok (.getfield 87, 3) := by decide +kernel
theorem dX2_monthsUntilTooFew_36 : decode cX2_monthsUntilTooFew 36 = .ok (.invokevirtual 219, 3) := by decide +kernel
theorem dX2_monthsUntilTooFew_39 : decode cX2_monthsUntilTooFew 39 = .ok (.iconst 0, 1) := by decide +kernel
theorem dX2_monthsUntilTooFew_40 : decode cX2_monthsUntilTooFew 40 = .ok (.istore 4, 2) := by decide +kernel
theorem dX2_monthsUntilTooFew_42 : decode cX2_monthsUntilTooFew 42 = .ok (.iload 4, 2) := by decide +kernel
theorem dX2_monthsUntilTooFew_44 : decode cX2_monthsUntilTooFew 44 = .ok (.bipush 120, 2) := by decide +kernel
theorem dX2_monthsUntilTooFew_46 : decode cX2_monthsUntilTooFew 46 = .ok (.if_icmp .gt 33, 3) := by decide +kernel
theorem dX2_monthsUntilTooFew_49 : decode cX2_monthsUntilTooFew 49 = .ok (.aload_n 0, 1) := by decide +kernel
theorem dX2_monthsUntilTooFew_50 : decode cX2_monthsUntilTooFew 50 = .ok (.getfield 31, 3) := by decide +kernel
theorem dX2_monthsUntilTooFew_53 : decode cX2_monthsUntilTooFew 53 = .ok (.iconst 0, 1) := by decide +kernel
theorem dX2_monthsUntilTooFew_54 : decode cX2_monthsUntilTooFew 54 = .ok (.invokevirtual 211, 3) := by decide +kernel
theorem dX2_monthsUntilTooFew_57 : decode cX2_monthsUntilTooFew 57 = .ok (.iload_n 3, 1) := by decide +kernel
theorem dX2_monthsUntilTooFew_58 : decode cX2_monthsUntilTooFew 58 = .ok (.if_icmp .ge 6, 3) := by decide +kernel
theorem dX2_monthsUntilTooFew_61 : decode cX2_monthsUntilTooFew 61 = .ok (.iload 4, 2) := by decide +kernel
theorem dX2_monthsUntilTooFew_63 : decode cX2_monthsUntilTooFew 63 = .ok (.ireturn, 1) := by decide +kernel
theorem dX2_monthsUntilTooFew_64 : decode cX2_monthsUntilTooFew 64 = .ok (.aload_n 0, 1) := by decide +kernel
theorem dX2_monthsUntilTooFew_65 : decode cX2_monthsUntilTooFew 65 = .ok (.getfield 31, 3) := by decide +kernel
theorem dX2_monthsUntilTooFew_68 : decode cX2_monthsUntilTooFew 68 = .ok (.iconst 1, 1) := by decide +kernel
theorem dX2_monthsUntilTooFew_69 : decode cX2_monthsUntilTooFew 69 = .ok (.invokevirtual 122, 3) := by decide +kernel
theorem dX2_monthsUntilTooFew_72 : decode cX2_monthsUntilTooFew 72 = .ok (.pop, 1) := by decide +kernel
theorem dX2_monthsUntilTooFew_73 : decode cX2_monthsUntilTooFew 73 = .ok (.iinc 4 1, 3) := by decide +kernel
theorem dX2_monthsUntilTooFew_76 : decode cX2_monthsUntilTooFew 76 = .ok (.goto (-34), 3) := by decide +kernel
theorem dX2_monthsUntilTooFew_79 : decode cX2_monthsUntilTooFew 79 = .ok (.ldc 154, 2) := by decide +kernel
theorem dX2_monthsUntilTooFew_81 : decode cX2_monthsUntilTooFew 81 = .ok (.ireturn, 1) := by decide +kernel
theorem dX2_gainByTopping_0 : decode cX2_gainByTopping 0 = .ok (.aload_n 0, 1) := by decide +kernel
theorem dX2_gainByTopping_1 : decode cX2_gainByTopping 1 = .ok (.iload_n 1, 1) := by decide +kernel
theorem dX2_gainByTopping_2 : decode cX2_gainByTopping 2 = .ok (.invokevirtual 83, 3) := by decide +kernel
theorem dX2_gainByTopping_5 : decode cX2_gainByTopping 5 = .ok (.astore_n 2, 1) := by decide +kernel
theorem dX2_gainByTopping_6 : decode cX2_gainByTopping 6 = .ok (.aload_n 2, 1) := by decide +kernel
theorem dX2_gainByTopping_7 : decode cX2_gainByTopping 7 = .ok (.ifnonnull 6, 3) := by decide +kernel
theorem dX2_gainByTopping_10 : decode cX2_gainByTopping 10 = .ok (.ldc 81, 2) := by decide +kernel
theorem dX2_gainByTopping_12 : decode cX2_gainByTopping 12 = .ok (.ireturn, 1) := by decide +kernel
theorem dX2_gainByTopping_13 : decode cX2_gainByTopping 13 = .ok (.aload_n 2, 1) := by decide +kernel
theorem dX2_gainByTopping_14 : decode cX2_gainByTopping 14 = .ok (.getfield 87, 3) := by decide +kernel
theorem dX2_gainByTopping_17 : decode cX2_gainByTopping 17 = .ok (.invokevirtual 112, 3) := by decide +kernel
theorem dX2_gainByTopping_20 : decode cX2_gainByTopping 20 = .ok (.ifCond .ne 6, 3) := by decide +kernel
theorem dX2_gainByTopping_23 : decode cX2_gainByTopping 23 = .ok (.ldc 98, 2) := by decide +kernel
theorem dX2_gainByTopping_25 : decode cX2_gainByTopping 25 = .ok (.ireturn, 1) := by decide +kernel
theorem dX2_gainByTopping_26 : decode cX2_gainByTopping 26 = .ok (.aload_n 0, 1) := by decide +kernel
theorem dX2_gainByTopping_27 : decode cX2_gainByTopping 27 = .ok (.getfield 31, 3) := by decide +kernel
theorem dX2_gainByTopping_30 : decode cX2_gainByTopping 30 = .ok (.aload_n 2, 1) := by decide +kernel
theorem dX2_gainByTopping_31 : decode cX2_gainByTopping 31 = .ok (.getfield 87, 3) := by decide +kernel
theorem dX2_gainByTopping_34 : decode cX2_gainByTopping 34 = .ok (.invokevirtual 219, 3) := by decide +kernel
theorem dX2_gainByTopping_37 : decode cX2_gainByTopping 37 = .ok (.aload_n 0, 1) := by decide +kernel
theorem dX2_gainByTopping_38 : decode cX2_gainByTopping 38 = .ok (.getfield 31, 3) := by decide +kernel
theorem dX2_gainByTopping_41 : decode cX2_gainByTopping 41 = .ok (.invokevirtual 116, 3) := by decide +kernel
theorem dX2_gainByTopping_44 : decode cX2_gainByTopping 44 = .ok (.aload_n 0, 1) := by decide +kernel
theorem dX2_gainByTopping_45 : decode cX2_gainByTopping 45 = .ok (.getfield 31, 3) := by decide +kernel
theorem dX2_gainByTopping_48 : decode cX2_gainByTopping 48 = .ok (.aload_n 0, 1) := by decide +kernel
theorem dX2_gainByTopping_49 : decode cX2_gainByTopping 49 = .ok (.getfield 39, 3) := by decide +kernel
theorem dX2_gainByTopping_52 : decode cX2_gainByTopping 52 = .ok (.invokevirtual 211, 3) := by decide +kernel
theorem dX2_gainByTopping_55 : decode cX2_gainByTopping 55 = .ok (.aload_n 2, 1) := by decide +kernel
theorem dX2_gainByTopping_56 : decode cX2_gainByTopping 56 = .ok (.getfield 87, 3) := by decide +kernel
theorem dX2_gainByTopping_59 : decode cX2_gainByTopping 59 = .ok (.aload_n 0, 1) := by decide +kernel
theorem dX2_gainByTopping_60 : decode cX2_gainByTopping 60 = .ok (.getfield 39, 3) := by decide +kernel
theorem dX2_gainByTopping_63 : decode cX2_gainByTopping 63 = .ok (.invokevirtual 211, 3) := by decide +kernel
theorem dX2_gainByTopping_66 : decode cX2_gainByTopping 66 = .ok (.isub, 1) := by decide +kernel
theorem dX2_gainByTopping_67 : decode cX2_gainByTopping 67 = .ok (.ireturn, 1) := by decide +kernel
theorem dX2_greatestLoss_0 : decode cX2_greatestLoss 0 = .ok (.aload_n 0, 1) := by decide +kernel
theorem dX2_greatestLoss_1 : decode cX2_greatestLoss 1 = .ok (.iload_n 1, 1) := by decide +kernel
theorem dX2_greatestLoss_2 : decode cX2_greatestLoss 2 = .ok (.invokevirtual 83, 3) := by decide +kernel
theorem dX2_greatestLoss_5 : decode cX2_greatestLoss 5 = .ok (.astore_n 3, 1) := by decide +kernel
theorem dX2_greatestLoss_6 : decode cX2_greatestLoss 6 = .ok (.aload_n 3, 1) := by decide +kernel
theorem dX2_greatestLoss_7 : decode cX2_greatestLoss 7 = .ok (.ifnull 12, 3) := by decide +kernel
theorem dX2_greatestLoss_10 : decode cX2_greatestLoss 10 = .ok (.iload_n 2, 1) := by decide +kernel
theorem dX2_greatestLoss_11 : decode cX2_greatestLoss 11 = .ok (.iconst 0, 1) := by decide +kernel
theorem dX2_greatestLoss_12 : decode cX2_greatestLoss 12 = .ok (.iconst 1, 1) := by decide +kernel
theorem dX2_greatestLoss_13 : decode cX2_greatestLoss 13 = .ok (.invokestatic 77, 3) := by decide +kernel
theorem dX2_greatestLoss_16 : decode cX2_greatestLoss 16 = .ok (.ifCond .ne 6, 3) := by decide +kernel
theorem dX2_greatestLoss_19 : decode cX2_greatestLoss 19 = .ok (.ldc 81, 2) := by decide +kernel
theorem dX2_greatestLoss_21 : decode cX2_greatestLoss 21 = .ok (.ireturn, 1) := by decide +kernel
theorem dX2_greatestLoss_22 : decode cX2_greatestLoss 22 = .ok (.aload_n 3, 1) := by decide +kernel
theorem dX2_greatestLoss_23 : decode cX2_greatestLoss 23 = .ok (.getfield 126, 3) := by decide +kernel
theorem dX2_greatestLoss_26 : decode cX2_greatestLoss 26 = .ok (.ifCond .eq 6, 3) := by decide +kernel
theorem dX2_greatestLoss_29 : decode cX2_greatestLoss 29 = .ok (.ldc 98, 2) := by decide +kernel
theorem dX2_greatestLoss_31 : decode cX2_greatestLoss 31 = .ok (.ireturn, 1) := by decide +kernel
theorem dX2_greatestLoss_32 : decode cX2_greatestLoss 32 = .ok (.iconst 0, 1) := by decide +kernel
theorem dX2_greatestLoss_33 : decode cX2_greatestLoss 33 = .ok (.istore 4, 2) := by decide +kernel
theorem dX2_greatestLoss_35 : decode cX2_greatestLoss 35 = .ok (.iconst 0, 1) := by decide +kernel
theorem dX2_greatestLoss_36 : decode cX2_greatestLoss 36 = .ok (.istore 5, 2) := by decide +kernel
theorem dX2_greatestLoss_38 : decode cX2_greatestLoss 38 = .ok (.iconst 0, 1) := by decide +kernel
theorem dX2_greatestLoss_39 : decode cX2_greatestLoss 39 = .ok (.istore 6, 2) := by decide +kernel
theorem dX2_greatestLoss_41 : decode cX2_greatestLoss 41 = .ok (.iload 6, 2) := by decide +kernel
theorem dX2_greatestLoss_43 : decode cX2_greatestLoss 43 = .ok (.aload_n 0, 1) := by decide +kernel
theorem dX2_greatestLoss_44 : decode cX2_greatestLoss 44 = .ok (.getfield 58, 3) := by decide +kernel
theorem dX2_greatestLoss_47 : decode cX2_greatestLoss 47 = .ok (.if_icmp .ge 40, 3) := by decide +kernel
theorem dX2_greatestLoss_50 : decode cX2_greatestLoss 50 = .ok (.aload_n 3, 1) := by decide +kernel
theorem dX2_greatestLoss_51 : decode cX2_greatestLoss 51 = .ok (.iload 6, 2) := by decide +kernel
theorem dX2_greatestLoss_53 : decode cX2_greatestLoss 53 = .ok (.aload_n 3, 1) := by decide +kernel
theorem dX2_greatestLoss_54 : decode cX2_greatestLoss 54 = .ok (.invokevirtual 173, 3) := by decide +kernel
theorem dX2_greatestLoss_57 : decode cX2_greatestLoss 57 = .ok (.aload_n 3, 1) := by decide +kernel
theorem dX2_greatestLoss_58 : decode cX2_greatestLoss 58 = .ok (.invokevirtual 133, 3) := by decide +kernel
theorem dX2_greatestLoss_61 : decode cX2_greatestLoss 61 = .ok (.invokevirtual 143, 3) := by decide +kernel
theorem dX2_greatestLoss_64 : decode cX2_greatestLoss 64 = .ok (.istore 7, 2) := by decide +kernel
theorem dX2_greatestLoss_66 : decode cX2_greatestLoss 66 = .ok (.iload 7, 2) := by decide +kernel
theorem dX2_greatestLoss_68 : decode cX2_greatestLoss 68 = .ok (.iload 4, 2) := by decide +kernel
theorem dX2_greatestLoss_70 : decode cX2_greatestLoss 70 = .ok (.if_icmp .le 11, 3) := by decide +kernel
theorem dX2_greatestLoss_73 : decode cX2_greatestLoss 73 = .ok (.iload 7, 2) := by decide +kernel
theorem dX2_greatestLoss_75 : decode cX2_greatestLoss 75 = .ok (.istore 4, 2) := by decide +kernel
theorem dX2_greatestLoss_77 : decode cX2_greatestLoss 77 = .ok (.iload 6, 2) := by decide +kernel
theorem dX2_greatestLoss_79 : decode cX2_greatestLoss 79 = .ok (.istore 5, 2) := by decide +kernel
theorem dX2_greatestLoss_81 : decode cX2_greatestLoss 81 = .ok (.iinc 6 1, 3) := by decide +kernel
theorem dX2_greatestLoss_84 : decode cX2_greatestLoss 84 = .ok (.goto (-43), 3) := by decide +kernel
theorem dX2_greatestLoss_87 : decode cX2_greatestLoss 87 = .ok (.iload 4, 2) := by decide +kernel
theorem dX2_greatestLoss_89 : decode cX2_greatestLoss 89 = .ok (.ifCond .ne 6, 3) := by decide +kernel
theorem dX2_greatestLoss_92 : decode cX2_greatestLoss 92 = .ok (.ldc 154, 2) := by decide +kernel
theorem dX2_greatestLoss_94 : decode cX2_greatestLoss 94 = .ok (.ireturn, 1) := by decide +kernel
theorem dX2_greatestLoss_95 : decode cX2_greatestLoss 95 = .ok (.iload_n 2, 1) := by decide +kernel
theorem dX2_greatestLoss_96 : decode cX2_greatestLoss 96 = .ok (.ifCond .ne 8, 3) := by decide +kernel
theorem dX2_greatestLoss_99 : decode cX2_greatestLoss 99 = .ok (.iload 5, 2) := by decide +kernel
theorem dX2_greatestLoss_101 : decode cX2_greatestLoss 101 = .ok (.goto 5, 3) := by decide +kernel
theorem dX2_greatestLoss_104 : decode cX2_greatestLoss 104 = .ok (.iload 4, 2) := by decide +kernel
theorem dX2_greatestLoss_106 : decode cX2_greatestLoss 106 = .ok (.ireturn, 1) := by decide +kernel
theorem dX3_init_0 : decode cX3_init 0 = .ok (.aload_n 0, 1) := by decide +kernel
theorem dX3_init_1 : decode cX3_init 1 = .ok (.invokespecial 3, 3) := by decide +kernel
theorem dX3_init_4 : decode cX3_init 4 = .ok (.aload_n 0, 1) := by decide +kernel
theorem dX3_init_5 : decode cX3_init 5 = .ok (.iconst 5, 1) := by decide +kernel
theorem dX3_init_6 : decode cX3_init 6 = .ok (.anewarray 9, 3) := by decide +kernel
theorem dX3_init_9 : decode cX3_init 9 = .ok (.putfield 11, 3) := by decide +kernel
theorem dX3_init_12 : decode cX3_init 12 = .ok (.iconst 0, 1) := by decide +kernel
theorem dX3_init_13 : decode cX3_init 13 = .ok (.istore_n 1, 1) := by decide +kernel
theorem dX3_init_14 : decode cX3_init 14 = .ok (.iload_n 1, 1) := by decide +kernel
theorem dX3_init_15 : decode cX3_init 15 = .ok (.aload_n 0, 1) := by decide +kernel
theorem dX3_init_16 : decode cX3_init 16 = .ok (.getfield 11, 3) := by decide +kernel
theorem dX3_init_19 : decode cX3_init 19 = .ok (.arraylength, 1) := by decide +kernel
theorem dX3_init_20 : decode cX3_init 20 = .ok (.if_icmp .ge 22, 3) := by decide +kernel
theorem dX3_init_23 : decode cX3_init 23 = .ok (.aload_n 0, 1) := by decide +kernel
theorem dX3_init_24 : decode cX3_init 24 = .ok (.getfield 11, 3) := by decide +kernel
theorem dX3_init_27 : decode cX3_init 27 = .ok (.iload_n 1, 1) := by decide +kernel
theorem dX3_init_28 : decode cX3_init 28 = .ok (.new 9, 3) := by decide +kernel
theorem dX3_init_31 : decode cX3_init 31 = .ok (.dup, 1) := by decide +kernel
theorem dX3_init_32 : decode cX3_init 32 = .ok (.invokespecial 17, 3) := by decide +kernel
theorem dX3_init_35 : decode cX3_init 35 = .ok (.aastore, 1) := by decide +kernel
theorem dX3_init_36 : decode cX3_init 36 = .ok (.iinc 1 1, 3) := by decide +kernel
theorem dX3_init_39 : decode cX3_init 39 = .ok (.goto (-25), 3) := by decide +kernel
theorem dX3_init_42 : decode cX3_init 42 = .ok (.return_, 1) := by decide +kernel
theorem dX3_draft_0 : decode cX3_draft 0 = .ok (.aload_n 0, 1) := by decide +kernel
theorem dX3_draft_1 : decode cX3_draft 1 = .ok (.invokevirtual 18, 3) := by decide +kernel
theorem dX3_draft_4 : decode cX3_draft 4 = .ok (.astore_n 2, 1) := by decide +kernel
theorem dX3_draft_5 : decode cX3_draft 5 = .ok (.aload_n 2, 1) := by decide +kernel
theorem dX3_draft_6 : decode cX3_draft 6 = .ok (.ifnull 8, 3) := by decide +kernel
theorem dX3_draft_9 : decode cX3_draft 9 = .ok (.aload_n 2, 1) := by decide +kernel
theorem dX3_draft_10 : decode cX3_draft 10 = .ok (.aload_n 1, 1) := by decide +kernel
theorem dX3_draft_11 : decode cX3_draft 11 = .ok (.invokevirtual 22, 3) := by decide +kernel
theorem dX3_draft_14 : decode cX3_draft 14 = .ok (.return_, 1) := by decide +kernel
theorem dX3_keepDraft_0 : decode cX3_keepDraft 0 = .ok (.aload_n 0, 1) := by decide +kernel
theorem dX3_keepDraft_1 : decode cX3_keepDraft 1 = .ok (.aload_n 0, 1) := by decide +kernel
theorem dX3_keepDraft_2 : decode cX3_keepDraft 2 = .ok (.getfield 26, 3) := by decide +kernel
theorem dX3_keepDraft_5 : decode cX3_keepDraft 5 = .ok (.iconst 4, 1) := by decide +kernel
theorem dX3_keepDraft_6 : decode cX3_keepDraft 6 = .ok (.if_icmp .lt 7, 3) := by decide +kernel
theorem dX3_keepDraft_9 : decode cX3_keepDraft 9 = .ok (.iconst 0, 1) := by decide +kernel
theorem dX3_keepDraft_10 : decode cX3_keepDraft 10 = .ok (.goto 9, 3) := by decide +kernel
theorem dX3_keepDraft_13 : decode cX3_keepDraft 13 = .ok (.aload_n 0, 1) := by decide +kernel
theorem dX3_keepDraft_14 : decode cX3_keepDraft 14 = .ok (.getfield 26, 3) := by decide +kernel
theorem dX3_keepDraft_17 : decode cX3_keepDraft 17 = .ok (.iconst 1, 1) := by decide +kernel
theorem dX3_keepDraft_18 : decode cX3_keepDraft 18 = .ok (.iadd, 1) := by decide +kernel
theorem dX3_keepDraft_19 : decode cX3_keepDraft 19 = .ok (.putfield 26, 3) := by decide +kernel
theorem dX3_keepDraft_22 : decode cX3_keepDraft 22 = .ok (.aload_n 0, 1) := by decide +kernel
theorem dX3_keepDraft_23 : decode cX3_keepDraft 23 = .ok (.aload_n 0, 1) := by decide +kernel
theorem dX3_keepDraft_24 : decode cX3_keepDraft 24 = .ok (.getfield 30, 3) := by decide +kernel
theorem dX3_keepDraft_27 : decode cX3_keepDraft 27 = .ok (.iconst 1, 1) := by decide +kernel
theorem dX3_keepDraft_28 : decode cX3_keepDraft 28 = .ok (.iadd, 1) := by decide +kernel
theorem dX3_keepDraft_29 : decode cX3_keepDraft 29 = .ok (.iconst 4, 1) := by decide +kernel
theorem dX3_keepDraft_30 : decode cX3_keepDraft 30 = .ok (.invokestatic 33, 3) := by decide +kernel
theorem dX3_keepDraft_33 : decode cX3_keepDraft 33 = .ok (.putfield 30, 3) := by decide +kernel
theorem dX3_keepDraft_36 : decode cX3_keepDraft 36 = .ok (.return_, 1) := by decide +kernel
theorem dX3_restore_0 : decode cX3_restore 0 = .ok (.aload_n 0, 1) := by decide +kernel
theorem dX3_restore_1 : decode cX3_restore 1 = .ok (.getfield 30, 3) := by decide +kernel
theorem dX3_restore_4 : decode cX3_restore 4 = .ok (.ifCond .gt 6, 3) := by decide +kernel
theorem dX3_restore_7 : decode cX3_restore 7 = .ok (.ldc 39, 2) := by decide +kernel
theorem dX3_restore_9 : decode cX3_restore 9 = .ok (.ireturn, 1) := by decide +kernel
theorem dX3_restore_10 : decode cX3_restore 10 = .ok (.aload_n 0, 1) := by decide +kernel
theorem dX3_restore_11 : decode cX3_restore 11 = .ok (.aload_n 0, 1) := by decide +kernel
theorem dX3_restore_12 : decode cX3_restore 12 = .ok (.getfield 26, 3) := by decide +kernel
theorem dX3_restore_15 : decode cX3_restore 15 = .ok (.ifCond .gt 7, 3) := by decide +kernel
theorem dX3_restore_18 : decode cX3_restore 18 = .ok (.iconst 4, 1) := by decide +kernel
theorem dX3_restore_19 : decode cX3_restore 19 = .ok (.goto 9, 3) := by decide +kernel
theorem dX3_restore_22 : decode cX3_restore 22 = .ok (.aload_n 0, 1) := by decide +kernel
theorem dX3_restore_23 : decode cX3_restore 23 = .ok (.getfield 26, 3) := by decide +kernel
theorem dX3_restore_26 : decode cX3_restore 26 = .ok (.iconst 1, 1) := by decide +kernel
theorem dX3_restore_27 : decode cX3_restore 27 = .ok (.isub, 1) := by decide +kernel
theorem dX3_restore_28 : decode cX3_restore 28 = .ok (.putfield 26, 3) := by decide +kernel
theorem dX3_restore_31 : decode cX3_restore 31 = .ok (.aload_n 0, 1) := by decide +kernel
theorem dX3_restore_32 : decode cX3_restore 32 = .ok (.dup, 1) := by decide +kernel
theorem dX3_restore_33 : decode cX3_restore 33 = .ok (.getfield 30, 3) := by decide +kernel
theorem dX3_restore_36 : decode cX3_restore 36 = .ok (.iconst 1, 1) := by decide +kernel
theorem dX3_restore_37 : decode cX3_restore 37 = .ok (.isub, 1) := by decide +kernel
theorem dX3_restore_38 : decode cX3_restore 38 = .ok (.putfield 30, 3) := by decide +kernel
theorem dX3_restore_41 : decode cX3_restore 41 = .ok (.aload_n 0, 1) := by decide +kernel
theorem dX3_restore_42 : decode cX3_restore 42 = .ok (.invokevirtual 18, 3) := by decide +kernel
theorem dX3_restore_45 : decode cX3_restore 45 = .ok (.astore_n 2, 1) := by decide +kernel
theorem dX3_restore_46 : decode cX3_restore 46 = .ok (.aload_n 2, 1) := by decide +kernel
theorem dX3_restore_47 : decode cX3_restore 47 = .ok (.ifnull 8, 3) := by decide +kernel
theorem dX3_restore_50 : decode cX3_restore 50 = .ok (.aload_n 1, 1) := by decide +kernel
theorem dX3_restore_51 : decode cX3_restore 51 = .ok (.aload_n 2, 1) := by decide +kernel
theorem dX3_restore_52 : decode cX3_restore 52 = .ok (.invokevirtual 22, 3) := by decide +kernel
theorem dX3_restore_55 : decode cX3_restore 55 = .ok (.aload_n 0, 1) := by decide +kernel
theorem dX3_restore_56 : decode cX3_restore 56 = .ok (.getfield 30, 3) := by decide +kernel
theorem dX3_restore_59 : decode cX3_restore 59 = .ok (.ireturn, 1) := by decide +kernel
theorem dX3_nextRow_0 : decode cX3_nextRow 0 = .ok (.aload_n 0, 1) := by decide +kernel
theorem dX3_nextRow_1 : decode cX3_nextRow 1 = .ok (.getfield 26, 3) := by decide +kernel
theorem dX3_nextRow_4 : decode cX3_nextRow 4 = .ok (.ifCond .lt 27, 3) := by decide +kernel
theorem dX3_nextRow_7 : decode cX3_nextRow 7 = .ok (.aload_n 0, 1) := by decide +kernel
theorem dX3_nextRow_8 : decode cX3_nextRow 8 = .ok (.getfield 26, 3) := by decide +kernel
theorem dX3_nextRow_11 : decode cX3_nextRow 11 = .ok (.aload_n 0, 1) := by decide +kernel
theorem dX3_nextRow_12 : decode cX3_nextRow 12 = .ok (.getfield 11, 3) := by decide +kernel
theorem dX3_nextRow_15 : decode cX3_nextRow 15 = .ok (.arraylength, 1) := by decide +kernel
theorem dX3_nextRow_16 : decode cX3_nextRow 16 = .ok (.if_icmp .ge 15, 3) := by decide +kernel
theorem dX3_nextRow_19 : decode cX3_nextRow 19 = .ok (.aload_n 0, 1) := by decide +kernel
theorem dX3_nextRow_20 : decode cX3_nextRow 20 = .ok (.getfield 11, 3) := by decide +kernel
theorem dX3_nextRow_23 : decode cX3_nextRow 23 = .ok (.aload_n 0, 1) := by decide +kernel
theorem dX3_nextRow_24 : decode cX3_nextRow 24 = .ok (.getfield 26, 3) := by decide +kernel
theorem dX3_nextRow_27 : decode cX3_nextRow 27 = .ok (.aaload, 1) := by decide +kernel
theorem dX3_nextRow_28 : decode cX3_nextRow 28 = .ok (.goto 4, 3) := by decide +kernel
theorem dX3_nextRow_31 : decode cX3_nextRow 31 = .ok (.aconst_null, 1) := by decide +kernel
theorem dX3_nextRow_32 : decode cX3_nextRow 32 = .ok (.areturn, 1) := by decide +kernel
theorem dX4_init_0 : decode cX4_init 0 = .ok (.aload_n 0, 1) := by decide +kernel
theorem dX4_init_1 : decode cX4_init 1 = .ok (.invokespecial 3, 3) := by decide +kernel
theorem dX4_init_4 : decode cX4_init 4 = .ok (.aload_n 0, 1) := by decide +kernel
theorem dX4_init_5 : decode cX4_init 5 = .ok (.new 9, 3) := by decide +kernel
theorem dX4_init_8 : decode cX4_init 8 = .ok (.dup, 1) := by decide +kernel
theorem dX4_init_9 : decode cX4_init 9 = .ok (.invokespecial 11, 3) := by decide +kernel
theorem dX4_init_12 : decode cX4_init 12 = .ok (.putfield 12, 3) := by decide +kernel
theorem dX4_init_15 : decode cX4_init 15 = .ok (.aload_n 0, 1) := by decide +kernel
theorem dX4_init_16 : decode cX4_init 16 = .ok (.bipush 6, 2) := by decide +kernel
theorem dX4_init_18 : decode cX4_init 18 = .ok (.newarray .int, 2) := by decide +kernel
theorem dX4_init_20 : decode cX4_init 20 = .ok (.putfield 18, 3) := by decide +kernel
theorem dX4_init_23 : decode cX4_init 23 = .ok (.aload_n 0, 1) := by decide +kernel
theorem dX4_init_24 : decode cX4_init 24 = .ok (.bipush 6, 2) := by decide +kernel
theorem dX4_init_26 : decode cX4_init 26 = .ok (.newarray .int, 2) := by decide +kernel
theorem dX4_init_28 : decode cX4_init 28 = .ok (.putfield 22, 3) := by decide +kernel
theorem dX4_init_31 : decode cX4_init 31 = .ok (.aload_n 0, 1) := by decide +kernel
theorem dX4_init_32 : decode cX4_init 32 = .ok (.bipush 6, 2) := by decide +kernel
theorem dX4_init_34 : decode cX4_init 34 = .ok (.newarray .int, 2) := by decide +kernel
theorem dX4_init_36 : decode cX4_init 36 = .ok (.putfield 25, 3) := by decide +kernel
theorem dX4_init_39 : decode cX4_init 39 = .ok (.return_, 1) := by decide +kernel
theorem dX4_copyLot_0 : decode cX4_copyLot 0 = .ok (.aload_n 0, 1) := by decide +kernel
theorem dX4_copyLot_1 : decode cX4_copyLot 1 = .ok (.getfield 12, 3) := by decide +kernel
theorem dX4_copyLot_4 : decode cX4_copyLot 4 = .ok (.aload_n 1, 1) := by decide +kernel
theorem dX4_copyLot_5 : decode cX4_copyLot 5 = .ok (.getfield 12, 3) := by decide +kernel
theorem dX4_copyLot_8 : decode cX4_copyLot 8 = .ok (.invokevirtual 28, 3) := by decide +kernel
theorem dX4_copyLot_11 : decode cX4_copyLot 11 = .ok (.aload_n 1, 1) := by decide +kernel
theorem dX4_copyLot_12 : decode cX4_copyLot 12 = .ok (.getfield 18, 3) := by decide +kernel
theorem dX4_copyLot_15 : decode cX4_copyLot 15 = .ok (.aload_n 0, 1) := by decide +kernel
theorem dX4_copyLot_16 : decode cX4_copyLot 16 = .ok (.getfield 18, 3) := by decide +kernel
theorem dX4_copyLot_19 : decode cX4_copyLot 19 = .ok (.invokestatic 32, 3) := by decide +kernel
theorem dX4_copyLot_22 : decode cX4_copyLot 22 = .ok (.aload_n 1, 1) := by decide +kernel
theorem dX4_copyLot_23 : decode cX4_copyLot 23 = .ok (.getfield 22, 3) := by decide +kernel
theorem dX4_copyLot_26 : decode cX4_copyLot 26 = .ok (.aload_n 0, 1) := by decide +kernel
theorem dX4_copyLot_27 : decode cX4_copyLot 27 = .ok (.getfield 22, 3) := by decide +kernel
theorem dX4_copyLot_30 : decode cX4_copyLot 30 = .ok (.invokestatic 32, 3) := by decide +kernel
theorem dX4_copyLot_33 : decode cX4_copyLot 33 = .ok (.aload_n 1, 1) := by decide +kernel
theorem dX4_copyLot_34 : decode cX4_copyLot 34 = .ok (.getfield 25, 3) := by decide +kernel
theorem dX4_copyLot_37 : decode cX4_copyLot 37 = .ok (.aload_n 0, 1) := by decide +kernel
theorem dX4_copyLot_38 : decode cX4_copyLot 38 = .ok (.getfield 25, 3) := by decide +kernel
theorem dX4_copyLot_41 : decode cX4_copyLot 41 = .ok (.invokestatic 32, 3) := by decide +kernel
theorem dX4_copyLot_44 : decode cX4_copyLot 44 = .ok (.aload_n 0, 1) := by decide +kernel
theorem dX4_copyLot_45 : decode cX4_copyLot 45 = .ok (.aload_n 1, 1) := by decide +kernel
theorem dX4_copyLot_46 : decode cX4_copyLot 46 = .ok (.getfield 36, 3) := by decide +kernel
theorem dX4_copyLot_49 : decode cX4_copyLot 49 = .ok (.putfield 36, 3) := by decide +kernel
theorem dX4_copyLot_52 : decode cX4_copyLot 52 = .ok (.aload_n 0, 1) := by decide +kernel
theorem dX4_copyLot_53 : decode cX4_copyLot 53 = .ok (.aload_n 1, 1) := by decide +kernel
theorem dX4_copyLot_54 : decode cX4_copyLot 54 = .ok (.getfield 40, 3) := by decide +kernel
theorem dX4_copyLot_57 : decode cX4_copyLot 57 = .ok (.putfield 40, 3) := by decide +kernel
theorem dX4_copyLot_60 : decode cX4_copyLot 60 = .ok (.aload_n 0, 1) := by decide +kernel
theorem dX4_copyLot_61 : decode cX4_copyLot 61 = .ok (.aload_n 1, 1) := by decide +kernel
theorem dX4_copyLot_62 : decode cX4_copyLot 62 = .ok (.getfield 44, 3) := by decide +kernel
theorem dX4_copyLot_65 : decode cX4_copyLot 65 = .ok (.putfield 44, 3) := by decide +kernel
theorem dX4_copyLot_68 : decode cX4_copyLot 68 = .ok (.aload_n 0, 1) := by decide +kernel
theorem dX4_copyLot_69 : decode cX4_copyLot 69 = .ok (.aload_n 1, 1) := by decide +kernel
theorem dX4_copyLot_70 : decode cX4_copyLot 70 = .ok (.getfield 47, 3) := by decide +kernel
theorem dX4_copyLot_73 : decode cX4_copyLot 73 = .ok (.putfield 47, 3) := by decide +kernel
theorem dX4_copyLot_76 : decode cX4_copyLot 76 = .ok (.return_, 1) := by decide +kernel
theorem dX4_quote_0 : decode cX4_quote 0 = .ok (.aload_n 0, 1) := by decide +kernel
theorem dX4_quote_1 : decode cX4_quote 1 = .ok (.getfield 47, 3) := by decide +kernel
theorem dX4_quote_4 : decode cX4_quote 4 = .ok (.ifCond .gt 6, 3) := by decide +kernel
theorem dX4_quote_7 : decode cX4_quote 7 = .ok (.bipush 10, 2) := by decide +kernel
theorem dX4_quote_9 : decode cX4_quote 9 = .ok (.ireturn, 1) := by decide +kernel
theorem dX4_quote_10 : decode cX4_quote 10 = .ok (.aload_n 0, 1) := by decide +kernel
theorem dX4_quote_11 : decode cX4_quote 11 = .ok (.getfield 44, 3) := by decide +kernel
theorem dX4_quote_14 : decode cX4_quote 14 = .ok (.aload_n 0, 1) := by decide +kernel
theorem dX4_quote_15 : decode cX4_quote 15 = .ok (.getfield 47, 3) := by decide +kernel
theorem dX4_quote_18 : decode cX4_quote 18 = .ok (.idiv, 1) := by decide +kernel
theorem dX4_quote_19 : decode cX4_quote 19 = .ok (.istore_n 1, 1) := by decide +kernel
theorem dX4_quote_20 : decode cX4_quote 20 = .ok (.bipush 10, 2) := by decide +kernel
theorem dX4_quote_22 : decode cX4_quote 22 = .ok (.iload_n 1, 1) := by decide +kernel
theorem dX4_quote_23 : decode cX4_quote 23 = .ok (.iload_n 1, 1) := by decide +kernel
theorem dX4_quote_24 : decode cX4_quote 24 = .ok (.imul, 1) := by decide +kernel
theorem dX4_quote_25 : decode cX4_quote 25 = .ok (.bipush 100, 2) := by decide +kernel
theorem dX4_quote_27 : decode cX4_quote 27 = .ok (.idiv, 1) := by decide +kernel
theorem dX4_quote_28 : decode cX4_quote 28 = .ok (.iadd, 1) := by decide +kernel
theorem dX4_quote_29 : decode cX4_quote 29 = .ok (.ireturn, 1) := by decide +kernel
theorem dX4_allHeld_0 : decode cX4_allHeld 0 = .ok (.aload_n 0, 1) := by decide +kernel
theorem dX4_allHeld_1 : decode cX4_allHeld 1 = .ok (.getfield 18, 3) := by decide +kernel
theorem dX4_allHeld_4 : decode cX4_allHeld 4 = .ok (.invokestatic 50, 3) := by decide +kernel
theorem dX4_allHeld_7 : decode cX4_allHeld 7 = .ok (.ireturn, 1) := by decide +kernel
theorem dX4_allDelivered_0 : decode cX4_allDelivered 0 = .ok (.aload_n 0, 1) := by decide +kernel
theorem dX4_allDelivered_1 : decode cX4_allDelivered 1 = .ok (.getfield 25, 3) := by decide +kernel
theorem dX4_allDelivered_4 : decode cX4_allDelivered 4 = .ok (.invokestatic 50, 3) := by decide +kernel
theorem dX4_allDelivered_7 : decode cX4_allDelivered 7 = .ok (.ireturn, 1) := by decide +kernel
theorem dX4_casesNow_0 : decode cX4_casesNow 0 = .ok (.aload_n 0, 1) := by decide +kernel
theorem dX4_casesNow_1 : decode cX4_casesNow 1 = .ok (.getfield 36, 3) := by decide +kernel
theorem dX4_casesNow_4 : decode cX4_casesNow 4 = .ok (.ifCond .eq 15, 3) := by decide +kernel
theorem dX4_casesNow_7 : decode cX4_casesNow 7 = .ok (.aload_n 0, 1) := by decide +kernel
theorem dX4_casesNow_8 : decode cX4_casesNow 8 = .ok (.getfield 40, 3) := by decide +kernel
theorem dX4_casesNow_11 : decode cX4_casesNow 11 = .ok (.aload_n 0, 1) := by decide +kernel
theorem dX4_casesNow_12 : decode cX4_casesNow 12 = .ok (.invokevirtual 54, 3) := by decide +kernel
theorem dX4_casesNow_15 : decode cX4_casesNow 15 = .ok (.isub, 1) := by decide +kernel
theorem dX4_casesNow_16 : decode cX4_casesNow 16 = .ok (.goto 11, 3) := by decide +kernel
theorem dX4_casesNow_19 : decode cX4_casesNow 19 = .ok (.aload_n 0, 1) := by decide +kernel
theorem dX4_casesNow_20 : decode cX4_casesNow 20 = .ok (.getfield 12, 3) := by decide +kernel
theorem dX4_casesNow_23 : decode cX4_casesNow 23 = .ok (.iconst 0, 1) := by decide +kernel
theorem dX4_casesNow_24 : decode cX4_casesNow 24 = .ok (.invokevirtual 58, 3) := by decide +kernel
theorem dX4_casesNow_27 : decode cX4_casesNow 27 = .ok (.ireturn, 1) := by decide +kernel
theorem dX4_heldBy_0 : decode cX4_heldBy 0 = .ok (.iload_n 1, 1) := by decide +kernel
theorem dX4_heldBy_1 : decode cX4_heldBy 1 = .ok (.ifCond .lt 21, 3) := by decide +kernel
theorem dX4_heldBy_4 : decode cX4_heldBy 4 = .ok (.iload_n 1, 1) := by decide +kernel
theorem dX4_heldBy_5 : decode cX4_heldBy 5 = .ok (.aload_n 0, 1) := by decide +kernel
theorem dX4_heldBy_6 : decode cX4_heldBy 6 = .ok (.getfield 18, 3) := by decide +kernel
theorem dX4_heldBy_9 : decode cX4_heldBy 9 = .ok (.arraylength, 1) := by decide +kernel
theorem dX4_heldBy_10 : decode cX4_heldBy 10 = .ok (.if_icmp .ge 12, 3) := by decide +kernel
theorem dX4_heldBy_13 : decode cX4_heldBy 13 = .ok (.aload_n 0, 1) := by decide +kernel
theorem dX4_heldBy_14 : decode cX4_heldBy 14 = .ok (.getfield 18, 3) := by decide +kernel
theorem dX4_heldBy_17 : decode cX4_heldBy 17 = .ok (.iload_n 1, 1) := by decide +kernel
theorem dX4_heldBy_18 : decode cX4_heldBy 18 = .ok (.iaload, 1) := by decide +kernel
theorem dX4_heldBy_19 : decode cX4_heldBy 19 = .ok (.goto 4, 3) := by decide +kernel
theorem dX4_heldBy_22 : decode cX4_heldBy 22 = .ok (.iconst 0, 1) := by decide +kernel
theorem dX4_heldBy_23 : decode cX4_heldBy 23 = .ok (.ireturn, 1) := by decide +kernel
theorem dX4_paidBy_0 : decode cX4_paidBy 0 = .ok (.iload_n 1, 1) := by decide +kernel
theorem dX4_paidBy_1 : decode cX4_paidBy 1 = .ok (.ifCond .lt 21, 3) := by decide +kernel
theorem dX4_paidBy_4 : decode cX4_paidBy 4 = .ok (.iload_n 1, 1) := by decide +kernel
theorem dX4_paidBy_5 : decode cX4_paidBy 5 = .ok (.aload_n 0, 1) := by decide +kernel
theorem dX4_paidBy_6 : decode cX4_paidBy 6 = .ok (.getfield 22, 3) := by decide +kernel
theorem dX4_paidBy_9 : decode cX4_paidBy 9 = .ok (.arraylength, 1) := by decide +kernel
theorem dX4_paidBy_10 : decode cX4_paidBy 10 = .ok (.if_icmp .ge 12, 3) := by decide +kernel
theorem dX4_paidBy_13 : decode cX4_paidBy 13 = .ok (.aload_n 0, 1) := by decide +kernel
theorem dX4_paidBy_14 : decode cX4_paidBy 14 = .ok (.getfield 22, 3) := by decide +kernel
theorem dX4_paidBy_17 : decode cX4_paidBy 17 = .ok (.iload_n 1, 1) := by decide +kernel
theorem dX4_paidBy_18 : decode cX4_paidBy 18 = .ok (.iaload, 1) := by decide +kernel
theorem dX4_paidBy_19 : decode cX4_paidBy 19 = .ok (.goto 4, 3) := by decide +kernel
theorem dX4_paidBy_22 : decode cX4_paidBy 22 = .ok (.iconst 0, 1) := by decide +kernel
theorem dX4_paidBy_23 : decode cX4_paidBy 23 = .ok (.ireturn, 1) := by decide +kernel
theorem dX4_deliveredTo_0 : decode cX4_deliveredTo 0 = .ok (.iload_n 1, 1) := by decide +kernel
theorem dX4_deliveredTo_1 : decode cX4_deliveredTo 1 = .ok (.ifCond .lt 21, 3) := by decide +kernel
theorem dX4_deliveredTo_4 : decode cX4_deliveredTo 4 = .ok (.iload_n 1, 1) := by decide +kernel
theorem dX4_deliveredTo_5 : decode cX4_deliveredTo 5 = .ok (.aload_n 0, 1) := by decide +kernel
theorem dX4_deliveredTo_6 : decode cX4_deliveredTo 6 = .ok (.getfield 25, 3) := by decide +kernel
theorem dX4_deliveredTo_9 : decode cX4_deliveredTo 9 = .ok (.arraylength, 1) := by decide +kernel
theorem dX4_deliveredTo_10 : decode cX4_deliveredTo 10 = .ok (.if_icmp .ge 12, 3) := by decide +kernel
theorem dX4_deliveredTo_13 : decode cX4_deliveredTo 13 = .ok (.aload_n 0, 1) := by decide +kernel
theorem dX4_deliveredTo_14 : decode cX4_deliveredTo 14 = .ok (.getfield 25, 3) := by decide +kernel
theorem dX4_deliveredTo_17 : decode cX4_deliveredTo 17 = .ok (.iload_n 1, 1) := by decide +kernel
theorem dX4_deliveredTo_18 : decode cX4_deliveredTo 18 = .ok (.iaload, 1) := by decide +kernel
theorem dX4_deliveredTo_19 : decode cX4_deliveredTo 19 = .ok (.goto 4, 3) := by decide +kernel
theorem dX4_deliveredTo_22 : decode cX4_deliveredTo 22 = .ok (.iconst 0, 1) := by decide +kernel
theorem dX4_deliveredTo_23 : decode cX4_deliveredTo 23 = .ok (.ireturn, 1) := by decide +kernel
theorem dX4_give_0 : decode cX4_give 0 = .ok (.iload_n 1, 1) := by decide +kernel
theorem dX4_give_1 : decode cX4_give 1 = .ok (.ifCond .lt 41, 3) := by decide +kernel
theorem dX4_give_4 : decode cX4_give 4 = .ok (.iload_n 1, 1) := by decide +kernel
theorem dX4_give_5 : decode cX4_give 5 = .ok (.aload_n 0, 1) := by decide +kernel
theorem dX4_give_6 : decode cX4_give 6 = .ok (.getfield 18, 3) := by decide +kernel
theorem dX4_give_9 : decode cX4_give 9 = .ok (.arraylength, 1) := by decide +kernel
theorem dX4_give_10 : decode cX4_give 10 = .ok (.if_icmp .ge 32, 3) := by decide +kernel
theorem dX4_give_13 : decode cX4_give 13 = .ok (.iload_n 1, 1) := by decide +kernel
theorem dX4_give_14 : decode cX4_give 14 = .ok (.aload_n 0, 1) := by decide +kernel
theorem dX4_give_15 : decode cX4_give 15 = .ok (.getfield 22, 3) := by decide +kernel
theorem dX4_give_18 : decode cX4_give 18 = .ok (.arraylength, 1) := by decide +kernel
theorem dX4_give_19 : decode cX4_give 19 = .ok (.if_icmp .ge 23, 3) := by decide +kernel
theorem dX4_give_22 : decode cX4_give 22 = .ok (.aload_n 0, 1) := by decide +kernel
theorem dX4_give_23 : decode cX4_give 23 = .ok (.getfield 18, 3) := by decide +kernel
theorem dX4_give_26 : decode cX4_give 26 = .ok (.iload_n 1, 1) := by decide +kernel
theorem dX4_give_27 : decode cX4_give 27 = .ok (.dup2, 1) := by decide +kernel
theorem dX4_give_28 : decode cX4_give 28 = .ok (.iaload, 1) := by decide +kernel
theorem dX4_give_29 : decode cX4_give 29 = .ok (.iload_n 2, 1) := by decide +kernel
theorem dX4_give_30 : decode cX4_give 30 = .ok (.iadd, 1) := by decide +kernel
theorem dX4_give_31 : decode cX4_give 31 = .ok (.iastore, 1) := by decide +kernel
theorem dX4_give_32 : decode cX4_give 32 = .ok (.aload_n 0, 1) := by decide +kernel
theorem dX4_give_33 : decode cX4_give 33 = .ok (.getfield 22, 3) := by decide +kernel
theorem dX4_give_36 : decode cX4_give 36 = .ok (.iload_n 1, 1) := by decide +kernel
theorem dX4_give_37 : decode cX4_give 37 = .ok (.dup2, 1) := by decide +kernel
theorem dX4_give_38 : decode cX4_give 38 = .ok (.iaload, 1) := by decide +kernel
theorem dX4_give_39 : decode cX4_give 39 = .ok (.iload_n 3, 1) := by decide +kernel
theorem dX4_give_40 : decode cX4_give 40 = .ok (.iadd, 1) := by decide +kernel
theorem dX4_give_41 : decode cX4_give 41 = .ok (.iastore, 1) := by decide +kernel
theorem dX4_give_42 : decode cX4_give 42 = .ok (.return_, 1) := by decide +kernel
theorem dX4_takeBack_0 : decode cX4_takeBack 0 = .ok (.aload_n 0, 1) := by decide +kernel
theorem dX4_takeBack_1 : decode cX4_takeBack 1 = .ok (.iload_n 1, 1) := by decide +kernel
theorem dX4_takeBack_2 : decode cX4_takeBack 2 = .ok (.invokevirtual 62, 3) := by decide +kernel
theorem dX4_takeBack_5 : decode cX4_takeBack 5 = .ok (.iload_n 2, 1) := by decide +kernel
theorem dX4_takeBack_6 : decode cX4_takeBack 6 = .ok (.aload_n 0, 1) := by decide +kernel
theorem dX4_takeBack_7 : decode cX4_takeBack 7 = .ok (.iload_n 1, 1) := by decide +kernel
theorem dX4_takeBack_8 : decode cX4_takeBack 8 = .ok (.invokevirtual 65, 3) := by decide +kernel
theorem dX4_takeBack_11 : decode cX4_takeBack 11 = .ok (.invokestatic 68, 3) := by decide +kernel
theorem dX4_takeBack_14 : decode cX4_takeBack 14 = .ok (.istore_n 3, 1) := by decide +kernel
theorem dX4_takeBack_15 : decode cX4_takeBack 15 = .ok (.aload_n 0, 1) := by decide +kernel
theorem dX4_takeBack_16 : decode cX4_takeBack 16 = .ok (.iload_n 1, 1) := by decide +kernel
theorem dX4_takeBack_17 : decode cX4_takeBack 17 = .ok (.iload_n 2, 1) := by decide +kernel
theorem dX4_takeBack_18 : decode cX4_takeBack 18 = .ok (.ineg, 1) := by decide +kernel
theorem dX4_takeBack_19 : decode cX4_takeBack 19 = .ok (.iload_n 3, 1) := by decide +kernel
theorem dX4_takeBack_20 : decode cX4_takeBack 20 = .ok (.ineg, 1) := by decide +kernel
theorem dX4_takeBack_21 : decode cX4_takeBack 21 = .ok (.invokevirtual 72, 3) := by decide +kernel
theorem dX4_takeBack_24 : decode cX4_takeBack 24 = .ok (.iload_n 3, 1) := by decide +kernel
theorem dX4_takeBack_25 : decode cX4_takeBack 25 = .ok (.ireturn, 1) := by decide +kernel
theorem dX4_deliver_0 : decode cX4_deliver 0 = .ok (.iload_n 1, 1) := by decide +kernel
theorem dX4_deliver_1 : decode cX4_deliver 1 = .ok (.ifCond .lt 29, 3) := by decide +kernel
theorem dX4_deliver_4 : decode cX4_deliver 4 = .ok (.iload_n 1, 1) := by decide +kernel
theorem dX4_deliver_5 : decode cX4_deliver 5 = .ok (.aload_n 0, 1) := by decide +kernel
theorem dX4_deliver_6 : decode cX4_deliver 6 = .ok (.getfield 25, 3) := by decide +kernel
theorem dX4_deliver_9 : decode cX4_deliver 9 = .ok (.arraylength, 1) := by decide +kernel
theorem dX4_deliver_10 : decode cX4_deliver 10 = .ok (.if_icmp .ge 20, 3) := by decide +kernel
theorem dX4_deliver_13 : decode cX4_deliver 13 = .ok (.aload_n 0, 1) := by decide +kernel
theorem dX4_deliver_14 : decode cX4_deliver 14 = .ok (.iload_n 1, 1) := by decide +kernel
theorem dX4_deliver_15 : decode cX4_deliver 15 = .ok (.iload_n 2, 1) := by decide +kernel
theorem dX4_deliver_16 : decode cX4_deliver 16 = .ok (.invokevirtual 76, 3) := by decide +kernel
theorem dX4_deliver_19 : decode cX4_deliver 19 = .ok (.pop, 1) := by decide +kernel
theorem dX4_deliver_20 : decode cX4_deliver 20 = .ok (.aload_n 0, 1) := by decide +kernel
theorem dX4_deliver_21 : decode cX4_deliver 21 = .ok (.getfield 25, 3) := by decide +kernel
theorem dX4_deliver_24 : decode cX4_deliver 24 = .ok (.iload_n 1, 1) := by decide +kernel
theorem dX4_deliver_25 : decode cX4_deliver 25 = .ok (.dup2, 1) := by decide +kernel
theorem dX4_deliver_26 : decode cX4_deliver 26 = .ok (.iaload, 1) := by decide +kernel
theorem dX4_deliver_27 : decode cX4_deliver 27 = .ok (.iload_n 2, 1) := by decide +kernel
theorem dX4_deliver_28 : decode cX4_deliver 28 = .ok (.iadd, 1) := by decide +kernel
theorem dX4_deliver_29 : decode cX4_deliver 29 = .ok (.iastore, 1) := by decide +kernel
theorem dX4_deliver_30 : decode cX4_deliver 30 = .ok (.return_, 1) := by decide +kernel
theorem dX4_cutOf_0 : decode cX4_cutOf 0 = .ok (.iload_n 3, 1) := by decide +kernel
theorem dX4_cutOf_1 : decode cX4_cutOf 1 = .ok (.iload_n 2, 1) := by decide +kernel
theorem dX4_cutOf_2 : decode cX4_cutOf 2 = .ok (.if_icmp .gt 5, 3) := by decide +kernel
theorem dX4_cutOf_5 : decode cX4_cutOf 5 = .ok (.iconst 0, 1) := by decide +kernel
theorem dX4_cutOf_6 : decode cX4_cutOf 6 = .ok (.ireturn, 1) := by decide +kernel
theorem dX4_cutOf_7 : decode cX4_cutOf 7 = .ok (.aload_n 0, 1) := by decide +kernel
theorem dX4_cutOf_8 : decode cX4_cutOf 8 = .ok (.iload_n 1, 1) := by decide +kernel
theorem dX4_cutOf_9 : decode cX4_cutOf 9 = .ok (.invokevirtual 65, 3) := by decide +kernel
theorem dX4_cutOf_12 : decode cX4_cutOf 12 = .ok (.aload_n 0, 1) := by decide +kernel
theorem dX4_cutOf_13 : decode cX4_cutOf 13 = .ok (.iload_n 1, 1) := by decide +kernel
theorem dX4_cutOf_14 : decode cX4_cutOf 14 = .ok (.invokevirtual 65, 3) := by decide +kernel
theorem dX4_cutOf_17 : decode cX4_cutOf 17 = .ok (.iload_n 2, 1) := by decide +kernel
theorem dX4_cutOf_18 : decode cX4_cutOf 18 = .ok (.iload_n 3, 1) := by decide +kernel
theorem dX4_cutOf_19 : decode cX4_cutOf 19 = .ok (.invokestatic 68, 3) := by decide +kernel
theorem dX4_cutOf_22 : decode cX4_cutOf 22 = .ok (.isub, 1) := by decide +kernel
theorem dX4_cutOf_23 : decode cX4_cutOf 23 = .ok (.ireturn, 1) := by decide +kernel
theorem dX4_fillBottles_0 : decode cX4_fillBottles 0 = .ok (.aload_n 0, 1) := by decide +kernel
theorem dX4_fillBottles_1 : decode cX4_fillBottles 1 = .ok (.aload_n 0, 1) := by decide +kernel
theorem dX4_fillBottles_2 : decode cX4_fillBottles 2 = .ok (.getfield 12, 3) := by decide +kernel
theorem dX4_fillBottles_5 : decode cX4_fillBottles 5 = .ok (.iconst 0, 1) := by decide +kernel
theorem dX4_fillBottles_6 : decode cX4_fillBottles 6 = .ok (.invokevirtual 58, 3) := by decide +kernel
theorem dX4_fillBottles_9 : decode cX4_fillBottles 9 = .ok (.putfield 40, 3) := by decide +kernel
theorem dX4_fillBottles_12 : decode cX4_fillBottles 12 = .ok (.aload_n 0, 1) := by decide +kernel
theorem dX4_fillBottles_13 : decode cX4_fillBottles 13 = .ok (.iconst 1, 1) := by decide +kernel
theorem dX4_fillBottles_14 : decode cX4_fillBottles 14 = .ok (.putfield 36, 3) := by decide +kernel
theorem dX4_fillBottles_17 : decode cX4_fillBottles 17 = .ok (.aload_n 0, 1) := by decide +kernel
theorem dX4_fillBottles_18 : decode cX4_fillBottles 18 = .ok (.getfield 12, 3) := by decide +kernel
theorem dX4_fillBottles_21 : decode cX4_fillBottles 21 = .ok (.iconst 0, 1) := by decide +kernel
theorem dX4_fillBottles_22 : decode cX4_fillBottles 22 = .ok (.aload_n 0, 1) := by decide +kernel
theorem dX4_fillBottles_23 : decode cX4_fillBottles 23 = .ok (.getfield 12, 3) := by decide +kernel
theorem dX4_fillBottles_26 : decode cX4_fillBottles 26 = .ok (.getfield 80, 3) := by decide +kernel
theorem dX4_fillBottles_29 : decode cX4_fillBottles 29 = .ok (.invokevirtual 83, 3) := by decide +kernel
theorem dX4_fillBottles_32 : decode cX4_fillBottles 32 = .ok (.return_, 1) := by decide +kernel
theorem dX5_init_0 : decode cX5_init 0 = .ok (.aload_n 0, 1) := by decide +kernel
theorem dX5_init_1 : decode cX5_init 1 = .ok (.invokespecial 3, 3) := by decide +kernel
theorem dX5_init_4 : decode cX5_init 4 = .ok (.aload_n 0, 1) := by decide +kernel
theorem dX5_init_5 : decode cX5_init 5 = .ok (.bipush 60, 2) := by decide +kernel
theorem dX5_init_7 : decode cX5_init 7 = .ok (.newarray .int, 2) := by decide +kernel
theorem dX5_init_9 : decode cX5_init 9 = .ok (.putfield 9, 3) := by decide +kernel
theorem dX5_init_12 : decode cX5_init 12 = .ok (.aload_n 0, 1) := by decide +kernel
theorem dX5_init_13 : decode cX5_init 13 = .ok (.iconst 4, 1) := by decide +kernel
theorem dX5_init_14 : decode cX5_init 14 = .ok (.newarray .int, 2) := by decide +kernel
theorem dX5_init_16 : decode cX5_init 16 = .ok (.putfield 15, 3) := by decide +kernel
theorem dX5_init_19 : decode cX5_init 19 = .ok (.return_, 1) := by decide +kernel
theorem dX5_append_0 : decode cX5_append 0 = .ok (.iload_n 1, 1) := by decide +kernel
theorem dX5_append_1 : decode cX5_append 1 = .ok (.bipush 32, 2) := by decide +kernel
theorem dX5_append_3 : decode cX5_append 3 = .ok (.bipush 126, 2) := by decide +kernel
theorem dX5_append_5 : decode cX5_append 5 = .ok (.invokestatic 18, 3) := by decide +kernel
theorem dX5_append_8 : decode cX5_append 8 = .ok (.ifCond .ne 6, 3) := by decide +kernel
theorem dX5_append_11 : decode cX5_append 11 = .ok (.ldc 22, 2) := by decide +kernel
theorem dX5_append_13 : decode cX5_append 13 = .ok (.ireturn, 1) := by decide +kernel
theorem dX5_append_14 : decode cX5_append 14 = .ok (.aload_n 0, 1) := by decide +kernel
theorem dX5_append_15 : decode cX5_append 15 = .ok (.getfield 23, 3) := by decide +kernel
theorem dX5_append_18 : decode cX5_append 18 = .ok (.ifCond .lt 15, 3) := by decide +kernel
theorem dX5_append_21 : decode cX5_append 21 = .ok (.aload_n 0, 1) := by decide +kernel
theorem dX5_append_22 : decode cX5_append 22 = .ok (.getfield 23, 3) := by decide +kernel
theorem dX5_append_25 : decode cX5_append 25 = .ok (.aload_n 0, 1) := by decide +kernel
theorem dX5_append_26 : decode cX5_append 26 = .ok (.getfield 9, 3) := by decide +kernel
theorem dX5_append_29 : decode cX5_append 29 = .ok (.arraylength, 1) := by decide +kernel
theorem dX5_append_30 : decode cX5_append 30 = .ok (.if_icmp .lt 6, 3) := by decide +kernel
theorem dX5_append_33 : decode cX5_append 33 = .ok (.ldc 27, 2) := by decide +kernel
theorem dX5_append_35 : decode cX5_append 35 = .ok (.ireturn, 1) := by decide +kernel
theorem dX5_append_36 : decode cX5_append 36 = .ok (.aload_n 0, 1) := by decide +kernel
theorem dX5_append_37 : decode cX5_append 37 = .ok (.getfield 9, 3) := by decide +kernel
theorem dX5_append_40 : decode cX5_append 40 = .ok (.aload_n 0, 1) := by decide +kernel
theorem dX5_append_41 : decode cX5_append 41 = .ok (.getfield 23, 3) := by decide +kernel
theorem dX5_append_44 : decode cX5_append 44 = .ok (.iload_n 1, 1) := by decide +kernel
theorem dX5_append_45 : decode cX5_append 45 = .ok (.iastore, 1) := by decide +kernel
theorem dX5_append_46 : decode cX5_append 46 = .ok (.aload_n 0, 1) := by decide +kernel
theorem dX5_append_47 : decode cX5_append 47 = .ok (.dup, 1) := by decide +kernel
theorem dX5_append_48 : decode cX5_append 48 = .ok (.getfield 23, 3) := by decide +kernel
theorem dX5_append_51 : decode cX5_append 51 = .ok (.iconst 1, 1) := by decide +kernel
theorem dX5_append_52 : decode cX5_append 52 = .ok (.iadd, 1) := by decide +kernel
theorem dX5_append_53 : decode cX5_append 53 = .ok (.putfield 23, 3) := by decide +kernel
theorem dX5_append_56 : decode cX5_append 56 = .ok (.aload_n 0, 1) := by decide +kernel
theorem dX5_append_57 : decode cX5_append 57 = .ok (.getfield 23, 3) := by decide +kernel
theorem dX5_append_60 : decode cX5_append 60 = .ok (.ireturn, 1) := by decide +kernel
theorem dX5_empty_0 : decode cX5_empty 0 = .ok (.aload_n 0, 1) := by decide +kernel
theorem dX5_empty_1 : decode cX5_empty 1 = .ok (.getfield 23, 3) := by decide +kernel
theorem dX5_empty_4 : decode cX5_empty 4 = .ok (.istore_n 1, 1) := by decide +kernel
theorem dX5_empty_5 : decode cX5_empty 5 = .ok (.aload_n 0, 1) := by decide +kernel
theorem dX5_empty_6 : decode cX5_empty 6 = .ok (.iconst 0, 1) := by decide +kernel
theorem dX5_empty_7 : decode cX5_empty 7 = .ok (.putfield 23, 3) := by decide +kernel
theorem dX5_empty_10 : decode cX5_empty 10 = .ok (.iload_n 1, 1) := by decide +kernel
theorem dX5_empty_11 : decode cX5_empty 11 = .ok (.ireturn, 1) := by decide +kernel
theorem dX5_sign_0 : decode cX5_sign 0 = .ok (.aload_n 0, 1) := by decide +kernel
theorem dX5_sign_1 : decode cX5_sign 1 = .ok (.getfield 28, 3) := by decide +kernel
theorem dX5_sign_4 : decode cX5_sign 4 = .ok (.ifCond .lt 38, 3) := by decide +kernel
theorem dX5_sign_7 : decode cX5_sign 7 = .ok (.aload_n 0, 1) := by decide +kernel
theorem dX5_sign_8 : decode cX5_sign 8 = .ok (.getfield 28, 3) := by decide +kernel
theorem dX5_sign_11 : decode cX5_sign 11 = .ok (.aload_n 0, 1) := by decide +kernel
theorem dX5_sign_12 : decode cX5_sign 12 = .ok (.getfield 23, 3) := by decide +kernel
theorem dX5_sign_15 : decode cX5_sign 15 = .ok (.if_icmp .ge 27, 3) := by decide +kernel
theorem dX5_sign_18 : decode cX5_sign 18 = .ok (.aload_n 0, 1) := by decide +kernel
theorem dX5_sign_19 : decode cX5_sign 19 = .ok (.getfield 28, 3) := by decide +kernel
theorem dX5_sign_22 : decode cX5_sign 22 = .ok (.aload_n 0, 1) := by decide +kernel
theorem dX5_sign_23 : decode cX5_sign 23 = .ok (.getfield 9, 3) := by decide +kernel
theorem dX5_sign_26 : decode cX5_sign 26 = .ok (.arraylength, 1) := by decide +kernel
theorem dX5_sign_27 : decode cX5_sign 27 = .ok (.if_icmp .ge 15, 3) := by decide +kernel
theorem dX5_sign_30 : decode cX5_sign 30 = .ok (.aload_n 0, 1) := by decide +kernel
theorem dX5_sign_31 : decode cX5_sign 31 = .ok (.getfield 9, 3) := by decide +kernel
theorem dX5_sign_34 : decode cX5_sign 34 = .ok (.aload_n 0, 1) := by decide +kernel
theorem dX5_sign_35 : decode cX5_sign 35 = .ok (.getfield 28, 3) := by decide +kernel
theorem dX5_sign_38 : decode cX5_sign 38 = .ok (.iaload, 1) := by decide +kernel
theorem dX5_sign_39 : decode cX5_sign 39 = .ok (.goto 4, 3) := by decide +kernel
theorem dX5_sign_42 : decode cX5_sign 42 = .ok (.iconst 0, 1) := by decide +kernel
theorem dX5_sign_43 : decode cX5_sign 43 = .ok (.ireturn, 1) := by decide +kernel
theorem dX5_numberAt_0 : decode cX5_numberAt 0 = .ok (.iload_n 1, 1) := by decide +kernel
theorem dX5_numberAt_1 : decode cX5_numberAt 1 = .ok (.ifCond .lt 21, 3) := by decide +kernel
theorem dX5_numberAt_4 : decode cX5_numberAt 4 = .ok (.iload_n 1, 1) := by decide +kernel
theorem dX5_numberAt_5 : decode cX5_numberAt 5 = .ok (.aload_n 0, 1) := by decide +kernel
theorem dX5_numberAt_6 : decode cX5_numberAt 6 = .ok (.getfield 15, 3) := by decide +kernel
theorem dX5_numberAt_9 : decode cX5_numberAt 9 = .ok (.arraylength, 1) := by decide +kernel
theorem dX5_numberAt_10 : decode cX5_numberAt 10 = .ok (.if_icmp .ge 12, 3) := by decide +kernel
theorem dX5_numberAt_13 : decode cX5_numberAt 13 = .ok (.aload_n 0, 1) := by decide +kernel
theorem dX5_numberAt_14 : decode cX5_numberAt 14 = .ok (.getfield 15, 3) := by decide +kernel
theorem dX5_numberAt_17 : decode cX5_numberAt 17 = .ok (.iload_n 1, 1) := by decide +kernel
theorem dX5_numberAt_18 : decode cX5_numberAt 18 = .ok (.iaload, 1) := by decide +kernel
theorem dX5_numberAt_19 : decode cX5_numberAt 19 = .ok (.goto 4, 3) := by decide +kernel
theorem dX5_numberAt_22 : decode cX5_numberAt 22 = .ok (.iconst 0, 1) := by decide +kernel
theorem dX5_numberAt_23 : decode cX5_numberAt 23 = .ok (.ireturn, 1) := by decide +kernel
theorem dX5_read_0 : decode cX5_read 0 = .ok (.aload_n 0, 1) := by decide +kernel
theorem dX5_read_1 : decode cX5_read 1 = .ok (.iload_n 1, 1) := by decide +kernel
theorem dX5_read_2 : decode cX5_read 2 = .ok (.putfield 28, 3) := by decide +kernel
theorem dX5_read_5 : decode cX5_read 5 = .ok (.aload_n 0, 1) := by decide +kernel
theorem dX5_read_6 : decode cX5_read 6 = .ok (.aload_n 0, 1) := by decide +kernel
theorem dX5_read_7 : decode cX5_read 7 = .ok (.invokevirtual 31, 3) := by decide +kernel
theorem dX5_read_10 : decode cX5_read 10 = .ok (.putfield 35, 3) := by decide +kernel
theorem dX5_read_13 : decode cX5_read 13 = .ok (.aload_n 0, 1) := by decide +kernel
theorem dX5_read_14 : decode cX5_read 14 = .ok (.aload_n 0, 1) := by decide +kernel
theorem dX5_read_15 : decode cX5_read 15 = .ok (.getfield 35, 3) := by decide +kernel
theorem dX5_read_18 : decode cX5_read 18 = .ok (.invokevirtual 38, 3) := by decide +kernel
theorem dX5_read_21 : decode cX5_read 21 = .ok (.istore_n 2, 1) := by decide +kernel
theorem dX5_read_22 : decode cX5_read 22 = .ok (.iload_n 2, 1) := by decide +kernel
theorem dX5_read_23 : decode cX5_read 23 = .ok (.ifCond .ne 5, 3) := by decide +kernel
theorem dX5_read_26 : decode cX5_read 26 = .ok (.iconst 0, 1) := by decide +kernel
theorem dX5_read_27 : decode cX5_read 27 = .ok (.ireturn, 1) := by decide +kernel
theorem dX5_read_28 : decode cX5_read 28 = .ok (.aload_n 0, 1) := by decide +kernel
theorem dX5_read_29 : decode cX5_read 29 = .ok (.dup, 1) := by decide +kernel
theorem dX5_read_30 : decode cX5_read 30 = .ok (.getfield 28, 3) := by decide +kernel
theorem dX5_read_33 : decode cX5_read 33 = .ok (.iconst 1, 1) := by decide +kernel
theorem dX5_read_34 : decode cX5_read 34 = .ok (.iadd, 1) := by decide +kernel
theorem dX5_read_35 : decode cX5_read 35 = .ok (.putfield 28, 3) := by decide +kernel
theorem dX5_read_38 : decode cX5_read 38 = .ok (.iconst 0, 1) := by decide +kernel
theorem dX5_read_39 : decode cX5_read 39 = .ok (.istore_n 3, 1) := by decide +kernel
theorem dX5_read_40 : decode cX5_read 40 = .ok (.iload_n 3, 1) := by decide +kernel
theorem dX5_read_41 : decode cX5_read 41 = .ok (.iload_n 2, 1) := by decide +kernel
theorem dX5_read_42 : decode cX5_read 42 = .ok (.if_icmp .ge 54, 3) := by decide +kernel
theorem dX5_read_45 : decode cX5_read 45 = .ok (.iload_n 3, 1) := by decide +kernel
theorem dX5_read_46 : decode cX5_read 46 = .ok (.iload_n 2, 1) := by decide +kernel
theorem dX5_read_47 : decode cX5_read 47 = .ok (.iconst 1, 1) := by decide +kernel
theorem dX5_read_48 : decode cX5_read 48 = .ok (.isub, 1) := by decide +kernel
theorem dX5_read_49 : decode cX5_read 49 = .ok (.if_icmp .ne 8, 3) := by decide +kernel
theorem dX5_read_52 : decode cX5_read 52 = .ok (.bipush 59, 2) := by decide +kernel
theorem dX5_read_54 : decode cX5_read 54 = .ok (.goto 5, 3) := by decide +kernel
theorem dX5_read_57 : decode cX5_read 57 = .ok (.bipush 44, 2) := by decide +kernel
theorem dX5_read_59 : decode cX5_read 59 = .ok (.istore 4, 2) := by decide +kernel
theorem dX5_read_61 : decode cX5_read 61 = .ok (.aload_n 0, 1) := by decide +kernel
theorem dX5_read_62 : decode cX5_read 62 = .ok (.iload_n 3, 1) := by decide +kernel
theorem dX5_read_63 : decode cX5_read 63 = .ok (.invokevirtual 42, 3) := by decide +kernel
theorem dX5_read_66 : decode cX5_read 66 = .ok (.ifCond .eq 12, 3) := by decide +kernel
theorem dX5_read_69 : decode cX5_read 69 = .ok (.aload_n 0, 1) := by decide +kernel
theorem dX5_read_70 : decode cX5_read 70 = .ok (.invokevirtual 31, 3) := by decide +kernel
theorem dX5_read_73 : decode cX5_read 73 = .ok (.iload 4, 2) := by decide +kernel
theorem dX5_read_75 : decode cX5_read 75 = .ok (.if_icmp .eq 5, 3) := by decide +kernel
theorem dX5_read_78 : decode cX5_read 78 = .ok (.iconst 0, 1) := by decide +kernel
theorem dX5_read_79 : decode cX5_read 79 = .ok (.ireturn, 1) := by decide +kernel
theorem dX5_read_80 : decode cX5_read 80 = .ok (.aload_n 0, 1) := by decide +kernel
theorem dX5_read_81 : decode cX5_read 81 = .ok (.dup, 1) := by decide +kernel
theorem dX5_read_82 : decode cX5_read 82 = .ok (.getfield 28, 3) := by decide +kernel
theorem dX5_read_85 : decode cX5_read 85 = .ok (.iconst 1, 1) := by decide +kernel
theorem dX5_read_86 : decode cX5_read 86 = .ok (.iadd, 1) := by decide +kernel
theorem dX5_read_87 : decode cX5_read 87 = .ok (.putfield 28, 3) := by decide +kernel
theorem dX5_read_90 : decode cX5_read 90 = .ok (.iinc 3 1, 3) := by decide +kernel
theorem dX5_read_93 : decode cX5_read 93 = .ok (.goto (-53), 3) := by decide +kernel
theorem dX5_read_96 : decode cX5_read 96 = .ok (.iconst 1, 1) := by decide +kernel
theorem dX5_read_97 : decode cX5_read 97 = .ok (.ireturn, 1) := by decide +kernel
theorem dX5_numbersOf_0 : decode cX5_numbersOf 0 = .ok (.iload_n 1, 1) := by decide +kernel
theorem dX5_numbersOf_1 : decode cX5_numbersOf 1 = .ok (.lookupswitch 61 #[(98, 59), (108, 53), (109, 57), (115, 51), (116, 55)], 51) := by decide +kernel
theorem dX5_numbersOf_52 : decode cX5_numbersOf 52 = .ok (.iconst 4, 1) := by decide +kernel
theorem dX5_numbersOf_53 : decode cX5_numbersOf 53 = .ok (.ireturn, 1) := by decide +kernel
theorem dX5_numbersOf_54 : decode cX5_numbersOf 54 = .ok (.iconst 2, 1) := by decide +kernel
theorem dX5_numbersOf_55 : decode cX5_numbersOf 55 = .ok (.ireturn, 1) := by decide +kernel
theorem dX5_numbersOf_56 : decode cX5_numbersOf 56 = .ok (.iconst 2, 1) := by decide +kernel
theorem dX5_numbersOf_57 : decode cX5_numbersOf 57 = .ok (.ireturn, 1) := by decide +kernel
theorem dX5_numbersOf_58 : decode cX5_numbersOf 58 = .ok (.iconst 1, 1) := by decide +kernel
theorem dX5_numbersOf_59 : decode cX5_numbersOf 59 = .ok (.ireturn, 1) := by decide +kernel
theorem dX5_numbersOf_60 : decode cX5_numbersOf 60 = .ok (.iconst 1, 1) := by decide +kernel
theorem dX5_numbersOf_61 : decode cX5_numbersOf 61 = .ok (.ireturn, 1) := by decide +kernel
theorem dX5_numbersOf_62 : decode cX5_numbersOf 62 = .ok (.iconst 0, 1) := by decide +kernel
theorem dX5_numbersOf_63 : decode cX5_numbersOf 63 = .ok (.ireturn, 1) := by decide +kernel
theorem dX5_readNumber_0 : decode cX5_readNumber 0 = .ok (.iconst 0, 1) := by decide +kernel
theorem dX5_readNumber_1 : decode cX5_readNumber 1 = .ok (.istore_n 2, 1) := by decide +kernel
theorem dX5_readNumber_2 : decode cX5_readNumber 2 = .ok (.iconst 0, 1) := by decide +kernel
theorem dX5_readNumber_3 : decode cX5_readNumber 3 = .ok (.istore_n 3, 1) := by decide +kernel
theorem dX5_readNumber_4 : decode cX5_readNumber 4 = .ok (.iload_n 3, 1) := by decide +kernel
theorem dX5_readNumber_5 : decode cX5_readNumber 5 = .ok (.iconst 3, 1) := by decide +kernel
theorem dX5_readNumber_6 : decode cX5_readNumber 6 = .ok (.if_icmp .ge 46, 3) := by decide +kernel
theorem dX5_readNumber_9 : decode cX5_readNumber 9 = .ok (.aload_n 0, 1) := by decide +kernel
theorem dX5_readNumber_10 : decode cX5_readNumber 10 = .ok (.invokevirtual 31, 3) := by decide +kernel
theorem dX5_readNumber_13 : decode cX5_readNumber 13 = .ok (.bipush 48, 2) := by decide +kernel
theorem dX5_readNumber_15 : decode cX5_readNumber 15 = .ok (.bipush 57, 2) := by decide +kernel
theorem dX5_readNumber_17 : decode cX5_readNumber 17 = .ok (.invokestatic 18, 3) := by decide +kernel
theorem dX5_readNumber_20 : decode cX5_readNumber 20 = .ok (.ifCond .eq 32, 3) := by decide +kernel
theorem dX5_readNumber_23 : decode cX5_readNumber 23 = .ok (.iload_n 2, 1) := by decide +kernel
theorem dX5_readNumber_24 : decode cX5_readNumber 24 = .ok (.bipush 10, 2) := by decide +kernel
theorem dX5_readNumber_26 : decode cX5_readNumber 26 = .ok (.imul, 1) := by decide +kernel
theorem dX5_readNumber_27 : decode cX5_readNumber 27 = .ok (.aload_n 0, 1) := by decide +kernel
theorem dX5_readNumber_28 : decode cX5_readNumber 28 = .ok (.invokevirtual 31, 3) := by decide +kernel
theorem dX5_readNumber_31 : decode cX5_readNumber 31 = .ok (.bipush 48, 2) := by decide +kernel
theorem dX5_readNumber_33 : decode cX5_readNumber 33 = .ok (.isub, 1) := by decide +kernel
theorem dX5_readNumber_34 : decode cX5_readNumber 34 = .ok (.iadd, 1) := by decide +kernel
theorem dX5_readNumber_35 : decode cX5_readNumber 35 = .ok (.istore_n 2, 1) := by decide +kernel
theorem dX5_readNumber_36 : decode cX5_readNumber 36 = .ok (.aload_n 0, 1) := by decide +kernel
theorem dX5_readNumber_37 : decode cX5_readNumber 37 = .ok (.dup, 1) := by decide +kernel
theorem dX5_readNumber_38 : decode cX5_readNumber 38 = .ok (.getfield 28, 3) := by decide +kernel
theorem dX5_readNumber_41 : decode cX5_readNumber 41 = .ok (.iconst 1, 1) := by decide +kernel
theorem dX5_readNumber_42 : decode cX5_readNumber 42 = .ok (.iadd, 1) := by decide +kernel
theorem dX5_readNumber_43 : decode cX5_readNumber 43 = .ok (.putfield 28, 3) := by decide +kernel
theorem dX5_readNumber_46 : decode cX5_readNumber 46 = .ok (.iinc 3 1, 3) := by decide +kernel
theorem dX5_readNumber_49 : decode cX5_readNumber 49 = .ok (.goto (-45), 3) := by decide +kernel
theorem dX5_readNumber_52 : decode cX5_readNumber 52 = .ok (.iload_n 1, 1) := by decide +kernel
theorem dX5_readNumber_53 : decode cX5_readNumber 53 = .ok (.ifCond .lt 19, 3) := by decide +kernel
theorem dX5_readNumber_56 : decode cX5_readNumber 56 = .ok (.iload_n 1, 1) := by decide +kernel
theorem dX5_readNumber_57 : decode cX5_readNumber 57 = .ok (.aload_n 0, 1) := by decide +kernel
theorem dX5_readNumber_58 : decode cX5_readNumber 58 = .ok (.getfield 15, 3) := by decide +kernel
theorem dX5_readNumber_61 : decode cX5_readNumber 61 = .ok (.arraylength, 1) := by decide +kernel
theorem dX5_readNumber_62 : decode cX5_readNumber 62 = .ok (.if_icmp .ge 10, 3) := by decide +kernel
theorem dX5_readNumber_65 : decode cX5_readNumber 65 = .ok (.aload_n 0, 1) := by decide +kernel
theorem dX5_readNumber_66 : decode cX5_readNumber 66 = .ok (.getfield 15, 3) := by decide +kernel
theorem dX5_readNumber_69 : decode cX5_readNumber 69 = .ok (.iload_n 1, 1) := by decide +kernel
theorem dX5_readNumber_70 : decode cX5_readNumber 70 = .ok (.iload_n 2, 1) := by decide +kernel
theorem dX5_readNumber_71 : decode cX5_readNumber 71 = .ok (.iastore, 1) := by decide +kernel
theorem dX5_readNumber_72 : decode cX5_readNumber 72 = .ok (.iload_n 3, 1) := by decide +kernel
theorem dX5_readNumber_73 : decode cX5_readNumber 73 = .ok (.ifCond .le 7, 3) := by decide +kernel
theorem dX5_readNumber_76 : decode cX5_readNumber 76 = .ok (.iconst 1, 1) := by decide +kernel
theorem dX5_readNumber_77 : decode cX5_readNumber 77 = .ok (.goto 4, 3) := by decide +kernel
theorem dX5_readNumber_80 : decode cX5_readNumber 80 = .ok (.iconst 0, 1) := by decide +kernel
theorem dX5_readNumber_81 : decode cX5_readNumber 81 = .ok (.ireturn, 1) := by decide +kernel
theorem dX6_init_0 : decode cX6_init 0 = .ok (.aload_n 0, 1) := by decide +kernel
theorem dX6_init_1 : decode cX6_init 1 = .ok (.invokespecial 3, 3) := by decide +kernel
theorem dX6_init_4 : decode cX6_init 4 = .ok (.aload_n 0, 1) := by decide +kernel
theorem dX6_init_5 : decode cX6_init 5 = .ok (.new 9, 3) := by decide +kernel
theorem dX6_init_8 : decode cX6_init 8 = .ok (.dup, 1) := by decide +kernel
theorem dX6_init_9 : decode cX6_init 9 = .ok (.invokespecial 11, 3) := by decide +kernel
theorem dX6_init_12 : decode cX6_init 12 = .ok (.putfield 12, 3) := by decide +kernel
theorem dX6_init_15 : decode cX6_init 15 = .ok (.return_, 1) := by decide +kernel
theorem dX6_run_0 : decode cX6_run 0 = .ok (.aload_n 0, 1) := by decide +kernel
theorem dX6_run_1 : decode cX6_run 1 = .ok (.getfield 12, 3) := by decide +kernel
theorem dX6_run_4 : decode cX6_run 4 = .ok (.aload_n 2, 1) := by decide +kernel
theorem dX6_run_5 : decode cX6_run 5 = .ok (.invokevirtual 18, 3) := by decide +kernel
theorem dX6_run_8 : decode cX6_run 8 = .ok (.aload_n 0, 1) := by decide +kernel
theorem dX6_run_9 : decode cX6_run 9 = .ok (.iconst 0, 1) := by decide +kernel
theorem dX6_run_10 : decode cX6_run 10 = .ok (.putfield 22, 3) := by decide +kernel
theorem dX6_run_13 : decode cX6_run 13 = .ok (.aload_n 0, 1) := by decide +kernel
theorem dX6_run_14 : decode cX6_run 14 = .ok (.iconst 0, 1) := by decide +kernel
theorem dX6_run_15 : decode cX6_run 15 = .ok (.putfield 26, 3) := by decide +kernel
theorem dX6_run_18 : decode cX6_run 18 = .ok (.iconst 0, 1) := by decide +kernel
theorem dX6_run_19 : decode cX6_run 19 = .ok (.istore_n 3, 1) := by decide +kernel
theorem dX6_run_20 : decode cX6_run 20 = .ok (.iconst 0, 1) := by decide +kernel
theorem dX6_run_21 : decode cX6_run 21 = .ok (.istore 4, 2) := by decide +kernel
theorem dX6_run_23 : decode cX6_run 23 = .ok (.iload 4, 2) := by decide +kernel
theorem dX6_run_25 : decode cX6_run 25 = .ok (.bipush 60, 2) := by decide +kernel
theorem dX6_run_27 : decode cX6_run 27 = .ok (.if_icmp .ge 98, 3) := by decide +kernel
theorem dX6_run_30 : decode cX6_run 30 = .ok (.iload_n 3, 1) := by decide +kernel
theorem dX6_run_31 : decode cX6_run 31 = .ok (.aload_n 1, 1) := by decide +kernel
theorem dX6_run_32 : decode cX6_run 32 = .ok (.getfield 29, 3) := by decide +kernel
theorem dX6_run_35 : decode cX6_run 35 = .ok (.if_icmp .ge 90, 3) := by decide +kernel
theorem dX6_run_38 : decode cX6_run 38 = .ok (.aload_n 0, 1) := by decide +kernel
theorem dX6_run_39 : decode cX6_run 39 = .ok (.getfield 26, 3) := by decide +kernel
theorem dX6_run_42 : decode cX6_run 42 = .ok (.ifCond .ne 83, 3) := by decide +kernel
theorem dX6_run_45 : decode cX6_run 45 = .ok (.aload_n 1, 1) := by decide +kernel
theorem dX6_run_46 : decode cX6_run 46 = .ok (.iload_n 3, 1) := by decide +kernel
theorem dX6_run_47 : decode cX6_run 47 = .ok (.invokevirtual 34, 3) := by decide +kernel
theorem dX6_run_50 : decode cX6_run 50 = .ok (.istore 5, 2) := by decide +kernel
theorem dX6_run_52 : decode cX6_run 52 = .ok (.iload 5, 2) := by decide +kernel
theorem dX6_run_54 : decode cX6_run 54 = .ok (.ifCond .eq 11, 3) := by decide +kernel
theorem dX6_run_57 : decode cX6_run 57 = .ok (.aload_n 0, 1) := by decide +kernel
theorem dX6_run_58 : decode cX6_run 58 = .ok (.aload_n 1, 1) := by decide +kernel
theorem dX6_run_59 : decode cX6_run 59 = .ok (.invokevirtual 38, 3) := by decide +kernel
theorem dX6_run_62 : decode cX6_run 62 = .ok (.goto 4, 3) := by decide +kernel
theorem dX6_run_65 : decode cX6_run 65 = .ok (.iconst 0, 1) := by decide +kernel
theorem dX6_run_66 : decode cX6_run 66 = .ok (.istore 6, 2) := by decide +kernel
theorem dX6_run_68 : decode cX6_run 68 = .ok (.iload 5, 2) := by decide +kernel
theorem dX6_run_70 : decode cX6_run 70 = .ok (.ifCond .ne 18, 3) := by decide +kernel
theorem dX6_run_73 : decode cX6_run 73 = .ok (.aload_n 0, 1) := by decide +kernel
theorem dX6_run_74 : decode cX6_run 74 = .ok (.iload_n 3, 1) := by decide +kernel
theorem dX6_run_75 : decode cX6_run 75 = .ok (.iconst 1, 1) := by decide +kernel
theorem dX6_run_76 : decode cX6_run 76 = .ok (.aload_n 1, 1) := by decide +kernel
theorem dX6_run_77 : decode cX6_run 77 = .ok (.getfield 42, 3) := by decide +kernel
theorem dX6_run_80 : decode cX6_run 80 = .ok (.iload_n 3, 1) := by decide +kernel
theorem dX6_run_81 : decode cX6_run 81 = .ok (.isub, 1) := by decide +kernel
theorem dX6_run_82 : decode cX6_run 82 = .ok (.invokevirtual 45, 3) := by decide +kernel
theorem dX6_run_85 : decode cX6_run 85 = .ok (.goto 29, 3) := by decide +kernel
theorem dX6_run_88 : decode cX6_run 88 = .ok (.iload 6, 2) := by decide +kernel
theorem dX6_run_90 : decode cX6_run 90 = .ok (.ifCond .ge 14, 3) := by decide +kernel
theorem dX6_run_93 : decode cX6_run 93 = .ok (.aload_n 0, 1) := by decide +kernel
theorem dX6_run_94 : decode cX6_run 94 = .ok (.iload_n 3, 1) := by decide +kernel
theorem dX6_run_95 : decode cX6_run 95 = .ok (.iconst 2, 1) := by decide +kernel
theorem dX6_run_96 : decode cX6_run 96 = .ok (.iload 6, 2) := by decide +kernel
theorem dX6_run_98 : decode cX6_run 98 = .ok (.invokevirtual 45, 3) := by decide +kernel
theorem dX6_run_101 : decode cX6_run 101 = .ok (.goto 13, 3) := by decide +kernel
theorem dX6_run_104 : decode cX6_run 104 = .ok (.aload_n 0, 1) := by decide +kernel
theorem dX6_run_105 : decode cX6_run 105 = .ok (.dup, 1) := by decide +kernel
theorem dX6_run_106 : decode cX6_run 106 = .ok (.getfield 22, 3) := by decide +kernel
theorem dX6_run_109 : decode cX6_run 109 = .ok (.iconst 1, 1) := by decide +kernel
theorem dX6_run_110 : decode cX6_run 110 = .ok (.iadd, 1) := by decide +kernel
theorem dX6_run_111 : decode cX6_run 111 = .ok (.putfield 22, 3) := by decide +kernel
theorem dX6_run_114 : decode cX6_run 114 = .ok (.aload_n 1, 1) := by decide +kernel
theorem dX6_run_115 : decode cX6_run 115 = .ok (.getfield 42, 3) := by decide +kernel
theorem dX6_run_118 : decode cX6_run 118 = .ok (.istore_n 3, 1) := by decide +kernel
theorem dX6_run_119 : decode cX6_run 119 = .ok (.iinc 4 1, 3) := by decide +kernel
theorem dX6_run_122 : decode cX6_run 122 = .ok (.goto (-99), 3) := by decide +kernel
theorem dX6_run_125 : decode cX6_run 125 = .ok (.return_, 1) := by decide +kernel
theorem dX6_answerOf_0 : decode cX6_answerOf 0 = .ok (.aload_n 1, 1) := by decide +kernel
theorem dX6_answerOf_1 : decode cX6_answerOf 1 = .ok (.iconst 0, 1) := by decide +kernel
theorem dX6_answerOf_2 : decode cX6_answerOf 2 = .ok (.invokevirtual 49, 3) := by decide +kernel
theorem dX6_answerOf_5 : decode cX6_answerOf 5 = .ok (.istore_n 2, 1) := by decide +kernel
theorem dX6_answerOf_6 : decode cX6_answerOf 6 = .ok (.aload_n 1, 1) := by decide +kernel
theorem dX6_answerOf_7 : decode cX6_answerOf 7 = .ok (.iconst 1, 1) := by decide +kernel
theorem dX6_answerOf_8 : decode cX6_answerOf 8 = .ok (.invokevirtual 49, 3) := by decide +kernel
theorem dX6_answerOf_11 : decode cX6_answerOf 11 = .ok (.istore_n 3, 1) := by decide +kernel
theorem dX6_answerOf_12 : decode cX6_answerOf 12 = .ok (.aload_n 1, 1) := by decide +kernel
theorem dX6_answerOf_13 : decode cX6_answerOf 13 = .ok (.getfield 53, 3) := by decide +kernel
theorem dX6_answerOf_16 : decode cX6_answerOf 16 = .ok (.tableswitch 101 108 116 #[52, 92, 101, 101, 101, 101, 101, 62, 82], 52) := by decide +kernel
theorem dX6_answerOf_68 : decode cX6_answerOf 68 = .ok (.aload_n 0, 1) := by decide +kernel
theorem dX6_answerOf_69 : decode cX6_answerOf 69 = .ok (.getfield 12, 3) := by decide +kernel
theorem dX6_answerOf_72 : decode cX6_answerOf 72 = .ok (.iload_n 2, 1) := by decide +kernel
theorem dX6_answerOf_73 : decode cX6_answerOf 73 = .ok (.iload_n 3, 1) := by decide +kernel
theorem dX6_answerOf_74 : decode cX6_answerOf 74 = .ok (.invokevirtual 56, 3) := by decide +kernel
theorem dX6_answerOf_77 : decode cX6_answerOf 77 = .ok (.ireturn, 1) := by decide +kernel
theorem dX6_answerOf_78 : decode cX6_answerOf 78 = .ok (.aload_n 0, 1) := by decide +kernel
theorem dX6_answerOf_79 : decode cX6_answerOf 79 = .ok (.getfield 12, 3) := by decide +kernel
theorem dX6_answerOf_82 : decode cX6_answerOf 82 = .ok (.iload_n 2, 1) := by decide +kernel
theorem dX6_answerOf_83 : decode cX6_answerOf 83 = .ok (.iload_n 3, 1) := by decide +kernel
theorem dX6_answerOf_84 : decode cX6_answerOf 84 = .ok (.aload_n 1, 1) := by decide +kernel
theorem dX6_answerOf_85 : decode cX6_answerOf 85 = .ok (.iconst 2, 1) := by decide +kernel
theorem dX6_answerOf_86 : decode cX6_answerOf 86 = .ok (.invokevirtual 49, 3) := by decide +kernel
theorem dX6_answerOf_89 : decode cX6_answerOf 89 = .ok (.aload_n 1, 1) := by decide +kernel
theorem dX6_answerOf_90 : decode cX6_answerOf 90 = .ok (.iconst 3, 1) := by decide +kernel
theorem dX6_answerOf_91 : decode cX6_answerOf 91 = .ok (.invokevirtual 49, 3) := by decide +kernel
theorem dX6_answerOf_94 : decode cX6_answerOf 94 = .ok (.invokevirtual 60, 3) := by decide +kernel
theorem dX6_answerOf_97 : decode cX6_answerOf 97 = .ok (.ireturn, 1) := by decide +kernel
theorem dX6_answerOf_98 : decode cX6_answerOf 98 = .ok (.aload_n 0, 1) := by decide +kernel
theorem dX6_answerOf_99 : decode cX6_answerOf 99 = .ok (.getfield 12, 3) := by decide +kernel
theorem dX6_answerOf_102 : decode cX6_answerOf 102 = .ok (.iload_n 2, 1) := by decide +kernel
theorem dX6_answerOf_103 : decode cX6_answerOf 103 = .ok (.iload_n 3, 1) := by decide +kernel
theorem dX6_answerOf_104 : decode cX6_answerOf 104 = .ok (.invokevirtual 64, 3) := by decide +kernel
theorem dX6_answerOf_107 : decode cX6_answerOf 107 = .ok (.ireturn, 1) := by decide +kernel
theorem dX6_answerOf_108 : decode cX6_answerOf 108 = .ok (.aload_n 0, 1) := by decide +kernel
theorem dX6_answerOf_109 : decode cX6_answerOf 109 = .ok (.getfield 12, 3) := by decide +kernel
theorem dX6_answerOf_112 : decode cX6_answerOf 112 = .ok (.iload_n 2, 1) := by decide +kernel
theorem dX6_answerOf_113 : decode cX6_answerOf 113 = .ok (.invokevirtual 67, 3) := by decide +kernel
theorem dX6_answerOf_116 : decode cX6_answerOf 116 = .ok (.ireturn, 1) := by decide +kernel
theorem dX6_answerOf_117 : decode cX6_answerOf 117 = .ok (.aload_n 0, 1) := by decide +kernel
theorem dX6_answerOf_118 : decode cX6_answerOf 118 = .ok (.getfield 12, 3) := by decide +kernel
theorem dX6_answerOf_121 : decode cX6_answerOf 121 = .ok (.iload_n 2, 1) := by decide +kernel
theorem dX6_answerOf_122 : decode cX6_answerOf 122 = .ok (.invokevirtual 70, 3) := by decide +kernel
theorem dX6_answerOf_125 : decode cX6_answerOf 125 = .ok (.ireturn, 1) := by decide +kernel
theorem dX6_blame_0 : decode cX6_blame 0 = .ok (.aload_n 0, 1) := by decide +kernel
theorem dX6_blame_1 : decode cX6_blame 1 = .ok (.iload_n 1, 1) := by decide +kernel
theorem dX6_blame_2 : decode cX6_blame 2 = .ok (.putfield 73, 3) := by decide +kernel
theorem dX6_blame_5 : decode cX6_blame 5 = .ok (.aload_n 0, 1) := by decide +kernel
theorem dX6_blame_6 : decode cX6_blame 6 = .ok (.iload_n 2, 1) := by decide +kernel
theorem dX6_blame_7 : decode cX6_blame 7 = .ok (.putfield 26, 3) := by decide +kernel
theorem dX6_blame_10 : decode cX6_blame 10 = .ok (.aload_n 0, 1) := by decide +kernel
theorem dX6_blame_11 : decode cX6_blame 11 = .ok (.iload_n 3, 1) := by decide +kernel
theorem dX6_blame_12 : decode cX6_blame 12 = .ok (.putfield 76, 3) := by decide +kernel
theorem dX6_blame_15 : decode cX6_blame 15 = .ok (.return_, 1) := by decide +kernel
theorem dX7_init_0 : decode cX7_init 0 = .ok (.aload_n 0, 1) := by decide +kernel
theorem dX7_init_1 : decode cX7_init 1 = .ok (.invokespecial 1, 3) := by decide +kernel
theorem dX7_init_4 : decode cX7_init 4 = .ok (.aload_n 0, 1) := by decide +kernel
theorem dX7_init_5 : decode cX7_init 5 = .ok (.new 7, 3) := by decide +kernel
theorem dX7_init_8 : decode cX7_init 8 = .ok (.dup, 1) := by decide +kernel
theorem dX7_init_9 : decode cX7_init 9 = .ok (.invokespecial 9, 3) := by decide +kernel
theorem dX7_init_12 : decode cX7_init 12 = .ok (.putfield 10, 3) := by decide +kernel
theorem dX7_init_15 : decode cX7_init 15 = .ok (.aload_n 0, 1) := by decide +kernel
theorem dX7_init_16 : decode cX7_init 16 = .ok (.new 16, 3) := by decide +kernel
theorem dX7_init_19 : decode cX7_init 19 = .ok (.dup, 1) := by decide +kernel
theorem dX7_init_20 : decode cX7_init 20 = .ok (.invokespecial 18, 3) := by decide +kernel
theorem dX7_init_23 : decode cX7_init 23 = .ok (.putfield 19, 3) := by decide +kernel
theorem dX7_init_26 : decode cX7_init 26 = .ok (.aload_n 0, 1) := by decide +kernel
theorem dX7_init_27 : decode cX7_init 27 = .ok (.new 23, 3) := by decide +kernel
theorem dX7_init_30 : decode cX7_init 30 = .ok (.dup, 1) := by decide +kernel
theorem dX7_init_31 : decode cX7_init 31 = .ok (.invokespecial 25, 3) := by decide +kernel
theorem dX7_init_34 : decode cX7_init 34 = .ok (.putfield 26, 3) := by decide +kernel
theorem dX7_init_37 : decode cX7_init 37 = .ok (.aload_n 0, 1) := by decide +kernel
theorem dX7_init_38 : decode cX7_init 38 = .ok (.new 30, 3) := by decide +kernel
theorem dX7_init_41 : decode cX7_init 41 = .ok (.dup, 1) := by decide +kernel
theorem dX7_init_42 : decode cX7_init 42 = .ok (.invokespecial 32, 3) := by decide +kernel
theorem dX7_init_45 : decode cX7_init 45 = .ok (.putfield 33, 3) := by decide +kernel
theorem dX7_init_48 : decode cX7_init 48 = .ok (.return_, 1) := by decide +kernel
theorem dX7_lot_0 : decode cX7_lot 0 = .ok (.aload_n 0, 1) := by decide +kernel
theorem dX7_lot_1 : decode cX7_lot 1 = .ok (.getfield 19, 3) := by decide +kernel
theorem dX7_lot_4 : decode cX7_lot 4 = .ok (.aload_n 0, 1) := by decide +kernel
theorem dX7_lot_5 : decode cX7_lot 5 = .ok (.getfield 10, 3) := by decide +kernel
theorem dX7_lot_8 : decode cX7_lot 8 = .ok (.invokevirtual 37, 3) := by decide +kernel
theorem dX7_lot_11 : decode cX7_lot 11 = .ok (.aload_n 0, 1) := by decide +kernel
theorem dX7_lot_12 : decode cX7_lot 12 = .ok (.aload_n 0, 1) := by decide +kernel
theorem dX7_lot_13 : decode cX7_lot 13 = .ok (.getfield 10, 3) := by decide +kernel
theorem dX7_lot_16 : decode cX7_lot 16 = .ok (.iload_n 1, 1) := by decide +kernel
theorem dX7_lot_17 : decode cX7_lot 17 = .ok (.iload_n 2, 1) := by decide +kernel
theorem dX7_lot_18 : decode cX7_lot 18 = .ok (.invokevirtual 41, 3) := by decide +kernel
theorem dX7_lot_21 : decode cX7_lot 21 = .ok (.invokevirtual 45, 3) := by decide +kernel
theorem dX7_lot_24 : decode cX7_lot 24 = .ok (.ireturn, 1) := by decide +kernel
theorem dX7_taste_0 : decode cX7_taste 0 = .ok (.aload_n 0, 1) := by decide +kernel
theorem dX7_taste_1 : decode cX7_taste 1 = .ok (.getfield 19, 3) := by decide +kernel
theorem dX7_taste_4 : decode cX7_taste 4 = .ok (.aload_n 0, 1) := by decide +kernel
theorem dX7_taste_5 : decode cX7_taste 5 = .ok (.getfield 10, 3) := by decide +kernel
theorem dX7_taste_8 : decode cX7_taste 8 = .ok (.invokevirtual 37, 3) := by decide +kernel
theorem dX7_taste_11 : decode cX7_taste 11 = .ok (.aload_n 0, 1) := by decide +kernel
theorem dX7_taste_12 : decode cX7_taste 12 = .ok (.aload_n 0, 1) := by decide +kernel
theorem dX7_taste_13 : decode cX7_taste 13 = .ok (.getfield 10, 3) := by decide +kernel
theorem dX7_taste_16 : decode cX7_taste 16 = .ok (.iload_n 1, 1) := by decide +kernel
theorem dX7_taste_17 : decode cX7_taste 17 = .ok (.iload_n 2, 1) := by decide +kernel
theorem dX7_taste_18 : decode cX7_taste 18 = .ok (.invokevirtual 49, 3) := by decide +kernel
theorem dX7_taste_21 : decode cX7_taste 21 = .ok (.invokevirtual 45, 3) := by decide +kernel
theorem dX7_taste_24 : decode cX7_taste 24 = .ok (.ireturn, 1) := by decide +kernel
theorem dX7_top_0 : decode cX7_top 0 = .ok (.aload_n 0, 1) := by decide +kernel
theorem dX7_top_1 : decode cX7_top 1 = .ok (.getfield 19, 3) := by decide +kernel
theorem dX7_top_4 : decode cX7_top 4 = .ok (.aload_n 0, 1) := by decide +kernel
theorem dX7_top_5 : decode cX7_top 5 = .ok (.getfield 10, 3) := by decide +kernel
theorem dX7_top_8 : decode cX7_top 8 = .ok (.invokevirtual 37, 3) := by decide +kernel
theorem dX7_top_11 : decode cX7_top 11 = .ok (.aload_n 0, 1) := by decide +kernel
theorem dX7_top_12 : decode cX7_top 12 = .ok (.aload_n 0, 1) := by decide +kernel
theorem dX7_top_13 : decode cX7_top 13 = .ok (.getfield 10, 3) := by decide +kernel
theorem dX7_top_16 : decode cX7_top 16 = .ok (.iload_n 1, 1) := by decide +kernel
theorem dX7_top_17 : decode cX7_top 17 = .ok (.invokevirtual 52, 3) := by decide +kernel
theorem dX7_top_20 : decode cX7_top 20 = .ok (.invokevirtual 45, 3) := by decide +kernel
theorem dX7_top_23 : decode cX7_top 23 = .ok (.ireturn, 1) := by decide +kernel
theorem dX7_pass_0 : decode cX7_pass 0 = .ok (.aload_n 0, 1) := by decide +kernel
theorem dX7_pass_1 : decode cX7_pass 1 = .ok (.getfield 19, 3) := by decide +kernel
theorem dX7_pass_4 : decode cX7_pass 4 = .ok (.aload_n 0, 1) := by decide +kernel
theorem dX7_pass_5 : decode cX7_pass 5 = .ok (.getfield 10, 3) := by decide +kernel
theorem dX7_pass_8 : decode cX7_pass 8 = .ok (.invokevirtual 37, 3) := by decide +kernel
theorem dX7_pass_11 : decode cX7_pass 11 = .ok (.aload_n 0, 1) := by decide +kernel
theorem dX7_pass_12 : decode cX7_pass 12 = .ok (.aload_n 0, 1) := by decide +kernel
theorem dX7_pass_13 : decode cX7_pass 13 = .ok (.getfield 10, 3) := by decide +kernel
theorem dX7_pass_16 : decode cX7_pass 16 = .ok (.iload_n 1, 1) := by decide +kernel
theorem dX7_pass_17 : decode cX7_pass 17 = .ok (.invokevirtual 55, 3) := by decide +kernel
theorem dX7_pass_20 : decode cX7_pass 20 = .ok (.invokevirtual 45, 3) := by decide +kernel
theorem dX7_pass_23 : decode cX7_pass 23 = .ok (.ireturn, 1) := by decide +kernel
theorem dX7_bottle_0 : decode cX7_bottle 0 = .ok (.aload_n 0, 1) := by decide +kernel
theorem dX7_bottle_1 : decode cX7_bottle 1 = .ok (.getfield 19, 3) := by decide +kernel
theorem dX7_bottle_4 : decode cX7_bottle 4 = .ok (.aload_n 0, 1) := by decide +kernel
theorem dX7_bottle_5 : decode cX7_bottle 5 = .ok (.getfield 10, 3) := by decide +kernel
theorem dX7_bottle_8 : decode cX7_bottle 8 = .ok (.invokevirtual 37, 3) := by decide +kernel
theorem dX7_bottle_11 : decode cX7_bottle 11 = .ok (.aload_n 0, 1) := by decide +kernel
theorem dX7_bottle_12 : decode cX7_bottle 12 = .ok (.aload_n 0, 1) := by decide +kernel
theorem dX7_bottle_13 : decode cX7_bottle 13 = .ok (.getfield 10, 3) := by decide +kernel
theorem dX7_bottle_16 : decode cX7_bottle 16 = .ok (.iload_n 1, 1) := by decide +kernel
theorem dX7_bottle_17 : decode cX7_bottle 17 = .ok (.invokevirtual 58, 3) := by decide +kernel
theorem dX7_bottle_20 : decode cX7_bottle 20 = .ok (.invokevirtual 45, 3) := by decide +kernel
theorem dX7_bottle_23 : decode cX7_bottle 23 = .ok (.ireturn, 1) := by decide +kernel
theorem dX7_buyer_0 : decode cX7_buyer 0 = .ok (.aload_n 0, 1) := by decide +kernel
theorem dX7_buyer_1 : decode cX7_buyer 1 = .ok (.getfield 19, 3) := by decide +kernel
theorem dX7_buyer_4 : decode cX7_buyer 4 = .ok (.aload_n 0, 1) := by decide +kernel
theorem dX7_buyer_5 : decode cX7_buyer 5 = .ok (.getfield 10, 3) := by decide +kernel
theorem dX7_buyer_8 : decode cX7_buyer 8 = .ok (.invokevirtual 37, 3) := by decide +kernel
theorem dX7_buyer_11 : decode cX7_buyer 11 = .ok (.aload_n 0, 1) := by decide +kernel
theorem dX7_buyer_12 : decode cX7_buyer 12 = .ok (.aload_n 0, 1) := by decide +kernel
theorem dX7_buyer_13 : decode cX7_buyer 13 = .ok (.getfield 10, 3) := by decide +kernel
theorem dX7_buyer_16 : decode cX7_buyer 16 = .ok (.invokevirtual 61, 3) := by decide +kernel
theorem dX7_buyer_19 : decode cX7_buyer 19 = .ok (.invokevirtual 45, 3) := by decide +kernel
theorem dX7_buyer_22 : decode cX7_buyer 22 = .ok (.ireturn, 1) := by decide +kernel
theorem dX7_sell_0 : decode cX7_sell 0 = .ok (.aload_n 0, 1) := by decide +kernel
theorem dX7_sell_1 : decode cX7_sell 1 = .ok (.getfield 19, 3) := by decide +kernel
theorem dX7_sell_4 : decode cX7_sell 4 = .ok (.aload_n 0, 1) := by decide +kernel
theorem dX7_sell_5 : decode cX7_sell 5 = .ok (.getfield 10, 3) := by decide +kernel
theorem dX7_sell_8 : decode cX7_sell 8 = .ok (.invokevirtual 37, 3) := by decide +kernel
theorem dX7_sell_11 : decode cX7_sell 11 = .ok (.aload_n 0, 1) := by decide +kernel
theorem dX7_sell_12 : decode cX7_sell 12 = .ok (.aload_n 0, 1) := by decide +kernel
theorem dX7_sell_13 : decode cX7_sell 13 = .ok (.getfield 10, 3) := by decide +kernel
theorem dX7_sell_16 : decode cX7_sell 16 = .ok (.iload_n 1, 1) := by decide +kernel
theorem dX7_sell_17 : decode cX7_sell 17 = .ok (.iload_n 2, 1) := by decide +kernel
theorem dX7_sell_18 : decode cX7_sell 18 = .ok (.iload_n 3, 1) := by decide +kernel
theorem dX7_sell_19 : decode cX7_sell 19 = .ok (.iload 4, 2) := by decide +kernel
theorem dX7_sell_21 : decode cX7_sell 21 = .ok (.invokevirtual 65, 3) := by decide +kernel
theorem dX7_sell_24 : decode cX7_sell 24 = .ok (.invokevirtual 45, 3) := by decide +kernel
theorem dX7_sell_27 : decode cX7_sell 27 = .ok (.ireturn, 1) := by decide +kernel
theorem dX7_trade_0 : decode cX7_trade 0 = .ok (.aload_n 0, 1) := by decide +kernel
theorem dX7_trade_1 : decode cX7_trade 1 = .ok (.getfield 19, 3) := by decide +kernel
theorem dX7_trade_4 : decode cX7_trade 4 = .ok (.aload_n 0, 1) := by decide +kernel
theorem dX7_trade_5 : decode cX7_trade 5 = .ok (.getfield 10, 3) := by decide +kernel
theorem dX7_trade_8 : decode cX7_trade 8 = .ok (.invokevirtual 37, 3) := by decide +kernel
theorem dX7_trade_11 : decode cX7_trade 11 = .ok (.aload_n 0, 1) := by decide +kernel
theorem dX7_trade_12 : decode cX7_trade 12 = .ok (.aload_n 0, 1) := by decide +kernel
theorem dX7_trade_13 : decode cX7_trade 13 = .ok (.getfield 10, 3) := by decide +kernel
theorem dX7_trade_16 : decode cX7_trade 16 = .ok (.iload_n 1, 1) := by decide +kernel
theorem dX7_trade_17 : decode cX7_trade 17 = .ok (.iload_n 2, 1) := by decide +kernel
theorem dX7_trade_18 : decode cX7_trade 18 = .ok (.iload_n 3, 1) := by decide +kernel
theorem dX7_trade_19 : decode cX7_trade 19 = .ok (.iload 4, 2) := by decide +kernel
theorem dX7_trade_21 : decode cX7_trade 21 = .ok (.iload 5, 2) := by decide +kernel
theorem dX7_trade_23 : decode cX7_trade 23 = .ok (.invokevirtual 69, 3) := by decide +kernel
theorem dX7_trade_26 : decode cX7_trade 26 = .ok (.invokevirtual 45, 3) := by decide +kernel
theorem dX7_trade_29 : decode cX7_trade 29 = .ok (.ireturn, 1) := by decide +kernel
theorem dX7_redeem_0 : decode cX7_redeem 0 = .ok (.aload_n 0, 1) := by decide +kernel
theorem dX7_redeem_1 : decode cX7_redeem 1 = .ok (.getfield 19, 3) := by decide +kernel
theorem dX7_redeem_4 : decode cX7_redeem 4 = .ok (.aload_n 0, 1) := by decide +kernel
theorem dX7_redeem_5 : decode cX7_redeem 5 = .ok (.getfield 10, 3) := by decide +kernel
theorem dX7_redeem_8 : decode cX7_redeem 8 = .ok (.invokevirtual 37, 3) := by decide +kernel
theorem dX7_redeem_11 : decode cX7_redeem 11 = .ok (.aload_n 0, 1) := by decide +kernel
theorem dX7_redeem_12 : decode cX7_redeem 12 = .ok (.aload_n 0, 1) := by decide +kernel
theorem dX7_redeem_13 : decode cX7_redeem 13 = .ok (.getfield 10, 3) := by decide +kernel
theorem dX7_redeem_16 : decode cX7_redeem 16 = .ok (.iload_n 1, 1) := by decide +kernel
theorem dX7_redeem_17 : decode cX7_redeem 17 = .ok (.iload_n 2, 1) := by decide +kernel
theorem dX7_redeem_18 : decode cX7_redeem 18 = .ok (.iload_n 3, 1) := by decide +kernel
theorem dX7_redeem_19 : decode cX7_redeem 19 = .ok (.invokevirtual 73, 3) := by decide +kernel
theorem dX7_redeem_22 : decode cX7_redeem 22 = .ok (.invokevirtual 45, 3) := by decide +kernel
theorem dX7_redeem_25 : decode cX7_redeem 25 = .ok (.ireturn, 1) := by decide +kernel
theorem dX7_set_0 : decode cX7_set 0 = .ok (.aload_n 0, 1) := by decide +kernel
theorem dX7_set_1 : decode cX7_set 1 = .ok (.getfield 19, 3) := by decide +kernel
theorem dX7_set_4 : decode cX7_set 4 = .ok (.aload_n 0, 1) := by decide +kernel
theorem dX7_set_5 : decode cX7_set 5 = .ok (.getfield 10, 3) := by decide +kernel
theorem dX7_set_8 : decode cX7_set 8 = .ok (.invokevirtual 37, 3) := by decide +kernel
theorem dX7_set_11 : decode cX7_set 11 = .ok (.aload_n 0, 1) := by decide +kernel
theorem dX7_set_12 : decode cX7_set 12 = .ok (.aload_n 0, 1) := by decide +kernel
theorem dX7_set_13 : decode cX7_set 13 = .ok (.getfield 10, 3) := by decide +kernel
theorem dX7_set_16 : decode cX7_set 16 = .ok (.iload_n 1, 1) := by decide +kernel
theorem dX7_set_17 : decode cX7_set 17 = .ok (.iload_n 2, 1) := by decide +kernel
theorem dX7_set_18 : decode cX7_set 18 = .ok (.invokevirtual 77, 3) := by decide +kernel
theorem dX7_set_21 : decode cX7_set 21 = .ok (.invokevirtual 45, 3) := by decide +kernel
theorem dX7_set_24 : decode cX7_set 24 = .ok (.ireturn, 1) := by decide +kernel
theorem dX7_lotOf_0 : decode cX7_lotOf 0 = .ok (.aload_n 0, 1) := by decide +kernel
theorem dX7_lotOf_1 : decode cX7_lotOf 1 = .ok (.getfield 10, 3) := by decide +kernel
theorem dX7_lotOf_4 : decode cX7_lotOf 4 = .ok (.iload_n 1, 1) := by decide +kernel
theorem dX7_lotOf_5 : decode cX7_lotOf 5 = .ok (.iload_n 2, 1) := by decide +kernel
theorem dX7_lotOf_6 : decode cX7_lotOf 6 = .ok (.invokevirtual 80, 3) := by decide +kernel
theorem dX7_lotOf_9 : decode cX7_lotOf 9 = .ok (.ireturn, 1) := by decide +kernel
theorem dX7_barrel_0 : decode cX7_barrel 0 = .ok (.aload_n 0, 1) := by decide +kernel
theorem dX7_barrel_1 : decode cX7_barrel 1 = .ok (.getfield 10, 3) := by decide +kernel
theorem dX7_barrel_4 : decode cX7_barrel 4 = .ok (.iload_n 1, 1) := by decide +kernel
theorem dX7_barrel_5 : decode cX7_barrel 5 = .ok (.iload_n 2, 1) := by decide +kernel
theorem dX7_barrel_6 : decode cX7_barrel 6 = .ok (.invokevirtual 83, 3) := by decide +kernel
theorem dX7_barrel_9 : decode cX7_barrel 9 = .ok (.ireturn, 1) := by decide +kernel
theorem dX7_holding_0 : decode cX7_holding 0 = .ok (.aload_n 0, 1) := by decide +kernel
theorem dX7_holding_1 : decode cX7_holding 1 = .ok (.getfield 10, 3) := by decide +kernel
theorem dX7_holding_4 : decode cX7_holding 4 = .ok (.iload_n 1, 1) := by decide +kernel
theorem dX7_holding_5 : decode cX7_holding 5 = .ok (.iload_n 2, 1) := by decide +kernel
theorem dX7_holding_6 : decode cX7_holding 6 = .ok (.iload_n 3, 1) := by decide +kernel
theorem dX7_holding_7 : decode cX7_holding 7 = .ok (.invokevirtual 86, 3) := by decide +kernel
theorem dX7_holding_10 : decode cX7_holding 10 = .ok (.ireturn, 1) := by decide +kernel
theorem dX7_account_0 : decode cX7_account 0 = .ok (.aload_n 0, 1) := by decide +kernel
theorem dX7_account_1 : decode cX7_account 1 = .ok (.getfield 10, 3) := by decide +kernel
theorem dX7_account_4 : decode cX7_account 4 = .ok (.iload_n 1, 1) := by decide +kernel
theorem dX7_account_5 : decode cX7_account 5 = .ok (.invokevirtual 89, 3) := by decide +kernel
theorem dX7_account_8 : decode cX7_account 8 = .ok (.ireturn, 1) := by decide +kernel
theorem dX7_entry_0 : decode cX7_entry 0 = .ok (.aload_n 0, 1) := by decide +kernel
theorem dX7_entry_1 : decode cX7_entry 1 = .ok (.getfield 10, 3) := by decide +kernel
theorem dX7_entry_4 : decode cX7_entry 4 = .ok (.getfield 92, 3) := by decide +kernel
theorem dX7_entry_7 : decode cX7_entry 7 = .ok (.iload_n 1, 1) := by decide +kernel
theorem dX7_entry_8 : decode cX7_entry 8 = .ok (.iload_n 2, 1) := by decide +kernel
theorem dX7_entry_9 : decode cX7_entry 9 = .ok (.invokevirtual 96, 3) := by decide +kernel
theorem dX7_entry_12 : decode cX7_entry 12 = .ok (.ireturn, 1) := by decide +kernel
theorem dX7_cases_0 : decode cX7_cases 0 = .ok (.aload_n 0, 1) := by decide +kernel
theorem dX7_cases_1 : decode cX7_cases 1 = .ok (.getfield 10, 3) := by decide +kernel
theorem dX7_cases_4 : decode cX7_cases 4 = .ok (.iload_n 1, 1) := by decide +kernel
theorem dX7_cases_5 : decode cX7_cases 5 = .ok (.iload_n 2, 1) := by decide +kernel
theorem dX7_cases_6 : decode cX7_cases 6 = .ok (.invokevirtual 101, 3) := by decide +kernel
theorem dX7_cases_9 : decode cX7_cases 9 = .ok (.ireturn, 1) := by decide +kernel
theorem dX7_sellable_0 : decode cX7_sellable 0 = .ok (.aload_n 0, 1) := by decide +kernel
theorem dX7_sellable_1 : decode cX7_sellable 1 = .ok (.getfield 10, 3) := by decide +kernel
theorem dX7_sellable_4 : decode cX7_sellable 4 = .ok (.iload_n 1, 1) := by decide +kernel
theorem dX7_sellable_5 : decode cX7_sellable 5 = .ok (.invokevirtual 104, 3) := by decide +kernel
theorem dX7_sellable_8 : decode cX7_sellable 8 = .ok (.ireturn, 1) := by decide +kernel
theorem dX7_deadline_0 : decode cX7_deadline 0 = .ok (.aload_n 0, 1) := by decide +kernel
theorem dX7_deadline_1 : decode cX7_deadline 1 = .ok (.getfield 10, 3) := by decide +kernel
theorem dX7_deadline_4 : decode cX7_deadline 4 = .ok (.iload_n 1, 1) := by decide +kernel
theorem dX7_deadline_5 : decode cX7_deadline 5 = .ok (.invokevirtual 107, 3) := by decide +kernel
theorem dX7_deadline_8 : decode cX7_deadline 8 = .ok (.ireturn, 1) := by decide +kernel
theorem dX7_topping_0 : decode cX7_topping 0 = .ok (.aload_n 0, 1) := by decide +kernel
theorem dX7_topping_1 : decode cX7_topping 1 = .ok (.getfield 10, 3) := by decide +kernel
theorem dX7_topping_4 : decode cX7_topping 4 = .ok (.iload_n 1, 1) := by decide +kernel
theorem dX7_topping_5 : decode cX7_topping 5 = .ok (.invokevirtual 110, 3) := by decide +kernel
theorem dX7_topping_8 : decode cX7_topping 8 = .ok (.ireturn, 1) := by decide +kernel
theorem dX7_loser_0 : decode cX7_loser 0 = .ok (.aload_n 0, 1) := by decide +kernel
theorem dX7_loser_1 : decode cX7_loser 1 = .ok (.getfield 10, 3) := by decide +kernel
theorem dX7_loser_4 : decode cX7_loser 4 = .ok (.iload_n 1, 1) := by decide +kernel
theorem dX7_loser_5 : decode cX7_loser 5 = .ok (.iload_n 2, 1) := by decide +kernel
theorem dX7_loser_6 : decode cX7_loser 6 = .ok (.invokevirtual 113, 3) := by decide +kernel
theorem dX7_loser_9 : decode cX7_loser 9 = .ok (.ireturn, 1) := by decide +kernel
theorem dX7_count_0 : decode cX7_count 0 = .ok (.iload_n 1, 1) := by decide +kernel
theorem dX7_count_1 : decode cX7_count 1 = .ok (.lookupswitch 43 #[(10, 27), (11, 35)], 27) := by decide +kernel
theorem dX7_count_28 : decode cX7_count 28 = .ok (.aload_n 0, 1) := by decide +kernel
theorem dX7_count_29 : decode cX7_count 29 = .ok (.getfield 19, 3) := by decide +kernel
theorem dX7_count_32 : decode cX7_count 32 = .ok (.getfield 116, 3) := by decide +kernel
theorem dX7_count_35 : decode cX7_count 35 = .ok (.ireturn, 1) := by decide +kernel
theorem dX7_count_36 : decode cX7_count 36 = .ok (.aload_n 0, 1) := by decide +kernel
theorem dX7_count_37 : decode cX7_count 37 = .ok (.getfield 26, 3) := by decide +kernel
theorem dX7_count_40 : decode cX7_count 40 = .ok (.getfield 120, 3) := by decide +kernel
theorem dX7_count_43 : decode cX7_count 43 = .ok (.ireturn, 1) := by decide +kernel
theorem dX7_count_44 : decode cX7_count 44 = .ok (.aload_n 0, 1) := by decide +kernel
theorem dX7_count_45 : decode cX7_count 45 = .ok (.getfield 10, 3) := by decide +kernel
theorem dX7_count_48 : decode cX7_count 48 = .ok (.iload_n 1, 1) := by decide +kernel
theorem dX7_count_49 : decode cX7_count 49 = .ok (.invokevirtual 123, 3) := by decide +kernel
theorem dX7_count_52 : decode cX7_count 52 = .ok (.ireturn, 1) := by decide +kernel
theorem dX7_undo_0 : decode cX7_undo 0 = .ok (.aload_n 0, 1) := by decide +kernel
theorem dX7_undo_1 : decode cX7_undo 1 = .ok (.getfield 19, 3) := by decide +kernel
theorem dX7_undo_4 : decode cX7_undo 4 = .ok (.aload_n 0, 1) := by decide +kernel
theorem dX7_undo_5 : decode cX7_undo 5 = .ok (.getfield 10, 3) := by decide +kernel
theorem dX7_undo_8 : decode cX7_undo 8 = .ok (.invokevirtual 126, 3) := by decide +kernel
theorem dX7_undo_11 : decode cX7_undo 11 = .ok (.ireturn, 1) := by decide +kernel
theorem dX7_type_0 : decode cX7_type 0 = .ok (.aload_n 0, 1) := by decide +kernel
theorem dX7_type_1 : decode cX7_type 1 = .ok (.getfield 26, 3) := by decide +kernel
theorem dX7_type_4 : decode cX7_type 4 = .ok (.iload_n 1, 1) := by decide +kernel
theorem dX7_type_5 : decode cX7_type 5 = .ok (.invokevirtual 130, 3) := by decide +kernel
theorem dX7_type_8 : decode cX7_type 8 = .ok (.ireturn, 1) := by decide +kernel
theorem dX7_clearText_0 : decode cX7_clearText 0 = .ok (.aload_n 0, 1) := by decide +kernel
theorem dX7_clearText_1 : decode cX7_clearText 1 = .ok (.getfield 26, 3) := by decide +kernel
theorem dX7_clearText_4 : decode cX7_clearText 4 = .ok (.invokevirtual 133, 3) := by decide +kernel
theorem dX7_clearText_7 : decode cX7_clearText 7 = .ok (.ireturn, 1) := by decide +kernel
theorem dX7_fault_0 : decode cX7_fault 0 = .ok (.iload_n 1, 1) := by decide +kernel
theorem dX7_fault_1 : decode cX7_fault 1 = .ok (.iconst 0, 1) := by decide +kernel
theorem dX7_fault_2 : decode cX7_fault 2 = .ok (.iconst 2, 1) := by decide +kernel
theorem dX7_fault_3 : decode cX7_fault 3 = .ok (.invokestatic 136, 3) := by decide +kernel
theorem dX7_fault_6 : decode cX7_fault 6 = .ok (.ifCond .ne 6, 3) := by decide +kernel
theorem dX7_fault_9 : decode cX7_fault 9 = .ok (.ldc 140, 2) := by decide +kernel
theorem dX7_fault_11 : decode cX7_fault 11 = .ok (.ireturn, 1) := by decide +kernel
theorem dX7_fault_12 : decode cX7_fault 12 = .ok (.aload_n 0, 1) := by decide +kernel
theorem dX7_fault_13 : decode cX7_fault 13 = .ok (.getfield 33, 3) := by decide +kernel
theorem dX7_fault_16 : decode cX7_fault 16 = .ok (.aload_n 0, 1) := by decide +kernel
theorem dX7_fault_17 : decode cX7_fault 17 = .ok (.getfield 26, 3) := by decide +kernel
theorem dX7_fault_20 : decode cX7_fault 20 = .ok (.aload_n 0, 1) := by decide +kernel
theorem dX7_fault_21 : decode cX7_fault 21 = .ok (.getfield 10, 3) := by decide +kernel
theorem dX7_fault_24 : decode cX7_fault 24 = .ok (.invokevirtual 141, 3) := by decide +kernel
theorem dX7_fault_27 : decode cX7_fault 27 = .ok (.aload_n 0, 1) := by decide +kernel
theorem dX7_fault_28 : decode cX7_fault 28 = .ok (.getfield 33, 3) := by decide +kernel
theorem dX7_fault_31 : decode cX7_fault 31 = .ok (.getfield 145, 3) := by decide +kernel
theorem dX7_fault_34 : decode cX7_fault 34 = .ok (.ifCond .ne 6, 3) := by decide +kernel
theorem dX7_fault_37 : decode cX7_fault 37 = .ok (.ldc 148, 2) := by decide +kernel
theorem dX7_fault_39 : decode cX7_fault 39 = .ok (.ireturn, 1) := by decide +kernel
theorem dX7_fault_40 : decode cX7_fault 40 = .ok (.iload_n 1, 1) := by decide +kernel
theorem dX7_fault_41 : decode cX7_fault 41 = .ok (.lookupswitch 43 #[(0, 27), (1, 35)], 27) := by decide +kernel
theorem dX7_fault_68 : decode cX7_fault 68 = .ok (.aload_n 0, 1) := by decide +kernel
theorem dX7_fault_69 : decode cX7_fault 69 = .ok (.getfield 33, 3) := by decide +kernel
theorem dX7_fault_72 : decode cX7_fault 72 = .ok (.getfield 149, 3) := by decide +kernel
theorem dX7_fault_75 : decode cX7_fault 75 = .ok (.ireturn, 1) := by decide +kernel
theorem dX7_fault_76 : decode cX7_fault 76 = .ok (.aload_n 0, 1) := by decide +kernel
theorem dX7_fault_77 : decode cX7_fault 77 = .ok (.getfield 33, 3) := by decide +kernel
theorem dX7_fault_80 : decode cX7_fault 80 = .ok (.getfield 145, 3) := by decide +kernel
theorem dX7_fault_83 : decode cX7_fault 83 = .ok (.ireturn, 1) := by decide +kernel
theorem dX7_fault_84 : decode cX7_fault 84 = .ok (.aload_n 0, 1) := by decide +kernel
theorem dX7_fault_85 : decode cX7_fault 85 = .ok (.getfield 33, 3) := by decide +kernel
theorem dX7_fault_88 : decode cX7_fault 88 = .ok (.getfield 152, 3) := by decide +kernel
theorem dX7_fault_91 : decode cX7_fault 91 = .ok (.ireturn, 1) := by decide +kernel
theorem dX7_play_0 : decode cX7_play 0 = .ok (.aload_n 0, 1) := by decide +kernel
theorem dX7_play_1 : decode cX7_play 1 = .ok (.getfield 33, 3) := by decide +kernel
theorem dX7_play_4 : decode cX7_play 4 = .ok (.aload_n 0, 1) := by decide +kernel
theorem dX7_play_5 : decode cX7_play 5 = .ok (.getfield 26, 3) := by decide +kernel
theorem dX7_play_8 : decode cX7_play 8 = .ok (.aload_n 0, 1) := by decide +kernel
theorem dX7_play_9 : decode cX7_play 9 = .ok (.getfield 10, 3) := by decide +kernel
theorem dX7_play_12 : decode cX7_play 12 = .ok (.invokevirtual 141, 3) := by decide +kernel
theorem dX7_play_15 : decode cX7_play 15 = .ok (.aload_n 0, 1) := by decide +kernel
theorem dX7_play_16 : decode cX7_play 16 = .ok (.getfield 33, 3) := by decide +kernel
theorem dX7_play_19 : decode cX7_play 19 = .ok (.getfield 145, 3) := by decide +kernel
theorem dX7_play_22 : decode cX7_play 22 = .ok (.ifCond .eq 6, 3) := by decide +kernel
theorem dX7_play_25 : decode cX7_play 25 = .ok (.ldc 155, 2) := by decide +kernel
theorem dX7_play_27 : decode cX7_play 27 = .ok (.ireturn, 1) := by decide +kernel
theorem dX7_play_28 : decode cX7_play 28 = .ok (.aload_n 0, 1) := by decide +kernel
theorem dX7_play_29 : decode cX7_play 29 = .ok (.getfield 19, 3) := by decide +kernel
theorem dX7_play_32 : decode cX7_play 32 = .ok (.aload_n 0, 1) := by decide +kernel
theorem dX7_play_33 : decode cX7_play 33 = .ok (.getfield 10, 3) := by decide +kernel
theorem dX7_play_36 : decode cX7_play 36 = .ok (.invokevirtual 37, 3) := by decide +kernel
theorem dX7_play_39 : decode cX7_play 39 = .ok (.aload_n 0, 1) := by decide +kernel
theorem dX7_play_40 : decode cX7_play 40 = .ok (.getfield 10, 3) := by decide +kernel
theorem dX7_play_43 : decode cX7_play 43 = .ok (.aload_n 0, 1) := by decide +kernel
theorem dX7_play_44 : decode cX7_play 44 = .ok (.getfield 33, 3) := by decide +kernel
theorem dX7_play_47 : decode cX7_play 47 = .ok (.getfield 156, 3) := by decide +kernel
theorem dX7_play_50 : decode cX7_play 50 = .ok (.invokevirtual 159, 3) := by decide +kernel
theorem dX7_play_53 : decode cX7_play 53 = .ok (.aload_n 0, 1) := by decide +kernel
theorem dX7_play_54 : decode cX7_play 54 = .ok (.aload_n 0, 1) := by decide +kernel
theorem dX7_play_55 : decode cX7_play 55 = .ok (.getfield 33, 3) := by decide +kernel
theorem dX7_play_58 : decode cX7_play 58 = .ok (.getfield 162, 3) := by decide +kernel
theorem dX7_play_61 : decode cX7_play 61 = .ok (.invokevirtual 45, 3) := by decide +kernel
theorem dX7_play_64 : decode cX7_play 64 = .ok (.ireturn, 1) := by decide +kernel
theorem dX7_settled_0 : decode cX7_settled 0 = .ok (.iload_n 1, 1) := by decide +kernel
theorem dX7_settled_1 : decode cX7_settled 1 = .ok (.ifCond .lt 10, 3) := by decide +kernel
theorem dX7_settled_4 : decode cX7_settled 4 = .ok (.aload_n 0, 1) := by decide +kernel
theorem dX7_settled_5 : decode cX7_settled 5 = .ok (.getfield 19, 3) := by decide +kernel
theorem dX7_settled_8 : decode cX7_settled 8 = .ok (.invokevirtual 165, 3) := by decide +kernel
theorem dX7_settled_11 : decode cX7_settled 11 = .ok (.iload_n 1, 1) := by decide +kernel
theorem dX7_settled_12 : decode cX7_settled 12 = .ok (.ireturn, 1) := by decide +kernel
theorem dX7_within_0 : decode cX7_within 0 = .ok (.iload_n 0, 1) := by decide +kernel
theorem dX7_within_1 : decode cX7_within 1 = .ok (.iload_n 1, 1) := by decide +kernel
theorem dX7_within_2 : decode cX7_within 2 = .ok (.if_icmp .lt 12, 3) := by decide +kernel
theorem dX7_within_5 : decode cX7_within 5 = .ok (.iload_n 0, 1) := by decide +kernel
theorem dX7_within_6 : decode cX7_within 6 = .ok (.iload_n 2, 1) := by decide +kernel
theorem dX7_within_7 : decode cX7_within 7 = .ok (.if_icmp .gt 7, 3) := by decide +kernel
theorem dX7_within_10 : decode cX7_within 10 = .ok (.iconst 1, 1) := by decide +kernel
theorem dX7_within_11 : decode cX7_within 11 = .ok (.goto 4, 3) := by decide +kernel
theorem dX7_within_14 : decode cX7_within 14 = .ok (.iconst 0, 1) := by decide +kernel
theorem dX7_within_15 : decode cX7_within 15 = .ok (.ireturn, 1) := by decide +kernel
theorem dX7_share_0 : decode cX7_share 0 = .ok (.iload_n 2, 1) := by decide +kernel
theorem dX7_share_1 : decode cX7_share 1 = .ok (.ifCond .gt 5, 3) := by decide +kernel
theorem dX7_share_4 : decode cX7_share 4 = .ok (.iconst 0, 1) := by decide +kernel
theorem dX7_share_5 : decode cX7_share 5 = .ok (.ireturn, 1) := by decide +kernel
theorem dX7_share_6 : decode cX7_share 6 = .ok (.iload_n 0, 1) := by decide +kernel
theorem dX7_share_7 : decode cX7_share 7 = .ok (.i2l, 1) := by decide +kernel
theorem dX7_share_8 : decode cX7_share 8 = .ok (.iload_n 1, 1) := by decide +kernel
theorem dX7_share_9 : decode cX7_share 9 = .ok (.i2l, 1) := by decide +kernel
theorem dX7_share_10 : decode cX7_share 10 = .ok (.lmul, 1) := by decide +kernel
theorem dX7_share_11 : decode cX7_share 11 = .ok (.iload_n 2, 1) := by decide +kernel
theorem dX7_share_12 : decode cX7_share 12 = .ok (.i2l, 1) := by decide +kernel
theorem dX7_share_13 : decode cX7_share 13 = .ok (.ldiv, 1) := by decide +kernel
theorem dX7_share_14 : decode cX7_share 14 = .ok (.l2i, 1) := by decide +kernel
theorem dX7_share_15 : decode cX7_share 15 = .ok (.ireturn, 1) := by decide +kernel
theorem dX7_sum_0 : decode cX7_sum 0 = .ok (.iconst 0, 1) := by decide +kernel
theorem dX7_sum_1 : decode cX7_sum 1 = .ok (.istore_n 1, 1) := by decide +kernel
theorem dX7_sum_2 : decode cX7_sum 2 = .ok (.iconst 0, 1) := by decide +kernel
theorem dX7_sum_3 : decode cX7_sum 3 = .ok (.istore_n 2, 1) := by decide +kernel
theorem dX7_sum_4 : decode cX7_sum 4 = .ok (.iload_n 2, 1) := by decide +kernel
theorem dX7_sum_5 : decode cX7_sum 5 = .ok (.aload_n 0, 1) := by decide +kernel
theorem dX7_sum_6 : decode cX7_sum 6 = .ok (.arraylength, 1) := by decide +kernel
theorem dX7_sum_7 : decode cX7_sum 7 = .ok (.if_icmp .ge 15, 3) := by decide +kernel
theorem dX7_sum_10 : decode cX7_sum 10 = .ok (.iload_n 1, 1) := by decide +kernel
theorem dX7_sum_11 : decode cX7_sum 11 = .ok (.aload_n 0, 1) := by decide +kernel
theorem dX7_sum_12 : decode cX7_sum 12 = .ok (.iload_n 2, 1) := by decide +kernel
theorem dX7_sum_13 : decode cX7_sum 13 = .ok (.iaload, 1) := by decide +kernel
theorem dX7_sum_14 : decode cX7_sum 14 = .ok (.iadd, 1) := by decide +kernel
theorem dX7_sum_15 : decode cX7_sum 15 = .ok (.istore_n 1, 1) := by decide +kernel
theorem dX7_sum_16 : decode cX7_sum 16 = .ok (.iinc 2 1, 3) := by decide +kernel
theorem dX7_sum_19 : decode cX7_sum 19 = .ok (.goto (-15), 3) := by decide +kernel
theorem dX7_sum_22 : decode cX7_sum 22 = .ok (.iload_n 1, 1) := by decide +kernel
theorem dX7_sum_23 : decode cX7_sum 23 = .ok (.ireturn, 1) := by decide +kernel
theorem dX7_copyRow_0 : decode cX7_copyRow 0 = .ok (.iconst 0, 1) := by decide +kernel
theorem dX7_copyRow_1 : decode cX7_copyRow 1 = .ok (.istore_n 2, 1) := by decide +kernel
theorem dX7_copyRow_2 : decode cX7_copyRow 2 = .ok (.iload_n 2, 1) := by decide +kernel
theorem dX7_copyRow_3 : decode cX7_copyRow 3 = .ok (.aload_n 0, 1) := by decide +kernel
theorem dX7_copyRow_4 : decode cX7_copyRow 4 = .ok (.arraylength, 1) := by decide +kernel
theorem dX7_copyRow_5 : decode cX7_copyRow 5 = .ok (.if_icmp .ge 21, 3) := by decide +kernel
theorem dX7_copyRow_8 : decode cX7_copyRow 8 = .ok (.iload_n 2, 1) := by decide +kernel
theorem dX7_copyRow_9 : decode cX7_copyRow 9 = .ok (.aload_n 1, 1) := by decide +kernel
theorem dX7_copyRow_10 : decode cX7_copyRow 10 = .ok (.arraylength, 1) := by decide +kernel
theorem dX7_copyRow_11 : decode cX7_copyRow 11 = .ok (.if_icmp .ge 15, 3) := by decide +kernel
theorem dX7_copyRow_14 : decode cX7_copyRow 14 = .ok (.aload_n 1, 1) := by decide +kernel
theorem dX7_copyRow_15 : decode cX7_copyRow 15 = .ok (.iload_n 2, 1) := by decide +kernel
theorem dX7_copyRow_16 : decode cX7_copyRow 16 = .ok (.aload_n 0, 1) := by decide +kernel
theorem dX7_copyRow_17 : decode cX7_copyRow 17 = .ok (.iload_n 2, 1) := by decide +kernel
theorem dX7_copyRow_18 : decode cX7_copyRow 18 = .ok (.iaload, 1) := by decide +kernel
theorem dX7_copyRow_19 : decode cX7_copyRow 19 = .ok (.iastore, 1) := by decide +kernel
theorem dX7_copyRow_20 : decode cX7_copyRow 20 = .ok (.iinc 2 1, 3) := by decide +kernel
theorem dX7_copyRow_23 : decode cX7_copyRow 23 = .ok (.goto (-21), 3) := by decide +kernel
theorem dX7_copyRow_26 : decode cX7_copyRow 26 = .ok (.return_, 1) := by decide +kernel
theorem dX7_floatBits_0 : decode cX7_floatBits 0 = .ok (.fload_n 0, 1) := by decide +kernel
theorem dX7_floatBits_1 : decode cX7_floatBits 1 = .ok (.fconst 0, 1) := by decide +kernel
theorem dX7_floatBits_2 : decode cX7_floatBits 2 = .ok (.fcmp .l, 1) := by decide +kernel
theorem dX7_floatBits_3 : decode cX7_floatBits 3 = .ok (.ifCond .gt 5, 3) := by decide +kernel
theorem dX7_floatBits_6 : decode cX7_floatBits 6 = .ok (.iconst 0, 1) := by decide +kernel
theorem dX7_floatBits_7 : decode cX7_floatBits 7 = .ok (.ireturn, 1) := by decide +kernel
theorem dX7_floatBits_8 : decode cX7_floatBits 8 = .ok (.fload_n 0, 1) := by decide +kernel
theorem dX7_floatBits_9 : decode cX7_floatBits 9 = .ok (.fstore_n 1, 1) := by decide +kernel
theorem dX7_floatBits_10 : decode cX7_floatBits 10 = .ok (.bipush 127, 2) := by decide +kernel
theorem dX7_floatBits_12 : decode cX7_floatBits 12 = .ok (.istore_n 2, 1) := by decide +kernel
theorem dX7_floatBits_13 : decode cX7_floatBits 13 = .ok (.iconst 0, 1) := by decide +kernel
theorem dX7_floatBits_14 : decode cX7_floatBits 14 = .ok (.istore_n 3, 1) := by decide +kernel
theorem dX7_floatBits_15 : decode cX7_floatBits 15 = .ok (.iload_n 3, 1) := by decide +kernel
theorem dX7_floatBits_16 : decode cX7_floatBits 16 = .ok (.bipush 127, 2) := by decide +kernel
theorem dX7_floatBits_18 : decode cX7_floatBits 18 = .ok (.if_icmp .ge 22, 3) := by decide +kernel
theorem dX7_floatBits_21 : decode cX7_floatBits 21 = .ok (.fload_n 1, 1) := by decide +kernel
theorem dX7_floatBits_22 : decode cX7_floatBits 22 = .ok (.fconst 2, 1) := by decide +kernel
theorem dX7_floatBits_23 : decode cX7_floatBits 23 = .ok (.fcmp .l, 1) := by decide +kernel
theorem dX7_floatBits_24 : decode cX7_floatBits 24 = .ok (.ifCond .lt 16, 3) := by decide +kernel
theorem dX7_floatBits_27 : decode cX7_floatBits 27 = .ok (.fload_n 1, 1) := by decide +kernel
theorem dX7_floatBits_28 : decode cX7_floatBits 28 = .ok (.fconst 2, 1) := by decide +kernel
theorem dX7_floatBits_29 : decode cX7_floatBits 29 = .ok (.fdiv, 1) := by decide +kernel
theorem dX7_floatBits_30 : decode cX7_floatBits 30 = .ok (.fstore_n 1, 1) := by decide +kernel
theorem dX7_floatBits_31 : decode cX7_floatBits 31 = .ok (.iinc 2 1, 3) := by decide +kernel
theorem dX7_floatBits_34 : decode cX7_floatBits 34 = .ok (.iinc 3 1, 3) := by decide +kernel
theorem dX7_floatBits_37 : decode cX7_floatBits 37 = .ok (.goto (-22), 3) := by decide +kernel
theorem dX7_floatBits_40 : decode cX7_floatBits 40 = .ok (.iconst 0, 1) := by decide +kernel
theorem dX7_floatBits_41 : decode cX7_floatBits 41 = .ok (.istore_n 3, 1) := by decide +kernel
theorem dX7_floatBits_42 : decode cX7_floatBits 42 = .ok (.iload_n 3, 1) := by decide +kernel
theorem dX7_floatBits_43 : decode cX7_floatBits 43 = .ok (.bipush 126, 2) := by decide +kernel
theorem dX7_floatBits_45 : decode cX7_floatBits 45 = .ok (.if_icmp .ge 22, 3) := by decide +kernel
theorem dX7_floatBits_48 : decode cX7_floatBits 48 = .ok (.fload_n 1, 1) := by decide +kernel
theorem dX7_floatBits_49 : decode cX7_floatBits 49 = .ok (.fconst 1, 1) := by decide +kernel
theorem dX7_floatBits_50 : decode cX7_floatBits 50 = .ok (.fcmp .g, 1) := by decide +kernel
theorem dX7_floatBits_51 : decode cX7_floatBits 51 = .ok (.ifCond .ge 16, 3) := by decide +kernel
theorem dX7_floatBits_54 : decode cX7_floatBits 54 = .ok (.fload_n 1, 1) := by decide +kernel
theorem dX7_floatBits_55 : decode cX7_floatBits 55 = .ok (.fconst 2, 1) := by decide +kernel
theorem dX7_floatBits_56 : decode cX7_floatBits 56 = .ok (.fmul, 1) := by decide +kernel
theorem dX7_floatBits_57 : decode cX7_floatBits 57 = .ok (.fstore_n 1, 1) := by decide +kernel
theorem dX7_floatBits_58 : decode cX7_floatBits 58 = .ok (.iinc 2 (-1), 3) := by decide +kernel
theorem dX7_floatBits_61 : decode cX7_floatBits 61 = .ok (.iinc 3 1, 3) := by decide +kernel
theorem dX7_floatBits_64 : decode cX7_floatBits 64 = .ok (.goto (-22), 3) := by decide +kernel
theorem dX7_floatBits_67 : decode cX7_floatBits 67 = .ok (.iload_n 2, 1) := by decide +kernel
theorem dX7_floatBits_68 : decode cX7_floatBits 68 = .ok (.bipush 23, 2) := by decide +kernel
theorem dX7_floatBits_70 : decode cX7_floatBits 70 = .ok (.ishl, 1) := by decide +kernel
theorem dX7_floatBits_71 : decode cX7_floatBits 71 = .ok (.fload_n 1, 1) := by decide +kernel
theorem dX7_floatBits_72 : decode cX7_floatBits 72 = .ok (.fconst 1, 1) := by decide +kernel
theorem dX7_floatBits_73 : decode cX7_floatBits 73 = .ok (.fsub, 1) := by decide +kernel
theorem dX7_floatBits_74 : decode cX7_floatBits 74 = .ok (.ldc 168, 2) := by decide +kernel
theorem dX7_floatBits_76 : decode cX7_floatBits 76 = .ok (.fmul, 1) := by decide +kernel
theorem dX7_floatBits_77 : decode cX7_floatBits 77 = .ok (.f2i, 1) := by decide +kernel
theorem dX7_floatBits_78 : decode cX7_floatBits 78 = .ok (.ior, 1) := by decide +kernel
theorem dX7_floatBits_79 : decode cX7_floatBits 79 = .ok (.ireturn, 1) := by decide +kernel
theorem dX8_init_0 : decode cX8_init 0 = .ok (.aload_n 0, 1) := by decide +kernel
theorem dX8_init_1 : decode cX8_init 1 = .ok (.invokespecial 1, 3) := by decide +kernel
theorem dX8_init_4 : decode cX8_init 4 = .ok (.aload_n 0, 1) := by decide +kernel
theorem dX8_init_5 : decode cX8_init 5 = .ok (.sipush 316, 3) := by decide +kernel
theorem dX8_init_8 : decode cX8_init 8 = .ok (.newarray .int, 2) := by decide +kernel
theorem dX8_init_10 : decode cX8_init 10 = .ok (.putfield 7, 3) := by decide +kernel
theorem dX8_init_13 : decode cX8_init 13 = .ok (.aload_n 0, 1) := by decide +kernel
theorem dX8_init_14 : decode cX8_init 14 = .ok (.sipush 1264, 3) := by decide +kernel
theorem dX8_init_17 : decode cX8_init 17 = .ok (.newarray .int, 2) := by decide +kernel
theorem dX8_init_19 : decode cX8_init 19 = .ok (.putfield 13, 3) := by decide +kernel
theorem dX8_init_22 : decode cX8_init 22 = .ok (.aload_n 0, 1) := by decide +kernel
theorem dX8_init_23 : decode cX8_init 23 = .ok (.sipush 316, 3) := by decide +kernel
theorem dX8_init_26 : decode cX8_init 26 = .ok (.newarray .int, 2) := by decide +kernel
theorem dX8_init_28 : decode cX8_init 28 = .ok (.putfield 16, 3) := by decide +kernel
theorem dX8_init_31 : decode cX8_init 31 = .ok (.aload_n 0, 1) := by decide +kernel
theorem dX8_init_32 : decode cX8_init 32 = .ok (.bipush 60, 2) := by decide +kernel
theorem dX8_init_34 : decode cX8_init 34 = .ok (.newarray .int, 2) := by decide +kernel
theorem dX8_init_36 : decode cX8_init 36 = .ok (.putfield 19, 3) := by decide +kernel
theorem dX8_init_39 : decode cX8_init 39 = .ok (.aload_n 0, 1) := by decide +kernel
theorem dX8_init_40 : decode cX8_init 40 = .ok (.bipush 12, 2) := by decide +kernel
theorem dX8_init_42 : decode cX8_init 42 = .ok (.newarray .int, 2) := by decide +kernel
theorem dX8_init_44 : decode cX8_init 44 = .ok (.putfield 22, 3) := by decide +kernel
theorem dX8_init_47 : decode cX8_init 47 = .ok (.aload_n 0, 1) := by decide +kernel
theorem dX8_init_48 : decode cX8_init 48 = .ok (.iconst 4, 1) := by decide +kernel
theorem dX8_init_49 : decode cX8_init 49 = .ok (.newarray .int, 2) := by decide +kernel
theorem dX8_init_51 : decode cX8_init 51 = .ok (.putfield 25, 3) := by decide +kernel
theorem dX8_init_54 : decode cX8_init 54 = .ok (.aload_n 0, 1) := by decide +kernel
theorem dX8_init_55 : decode cX8_init 55 = .ok (.getfield 7, 3) := by decide +kernel
theorem dX8_init_58 : decode cX8_init 58 = .ok (.bipush 7, 2) := by decide +kernel
theorem dX8_init_60 : decode cX8_init 60 = .ok (.bipush 10, 2) := by decide +kernel
theorem dX8_init_62 : decode cX8_init 62 = .ok (.iastore, 1) := by decide +kernel
theorem dX8_init_63 : decode cX8_init 63 = .ok (.aload_n 0, 1) := by decide +kernel
theorem dX8_init_64 : decode cX8_init 64 = .ok (.getfield 7, 3) := by decide +kernel
theorem dX8_init_67 : decode cX8_init 67 = .ok (.bipush 8, 2) := by decide +kernel
theorem dX8_init_69 : decode cX8_init 69 = .ok (.bipush 12, 2) := by decide +kernel
theorem dX8_init_71 : decode cX8_init 71 = .ok (.iastore, 1) := by decide +kernel
theorem dX8_init_72 : decode cX8_init 72 = .ok (.return_, 1) := by decide +kernel
theorem dX8_in_0 : decode cX8_in 0 = .ok (.iload_n 0, 1) := by decide +kernel
theorem dX8_in_1 : decode cX8_in 1 = .ok (.iload_n 1, 1) := by decide +kernel
theorem dX8_in_2 : decode cX8_in 2 = .ok (.if_icmp .lt 12, 3) := by decide +kernel
theorem dX8_in_5 : decode cX8_in 5 = .ok (.iload_n 0, 1) := by decide +kernel
theorem dX8_in_6 : decode cX8_in 6 = .ok (.iload_n 2, 1) := by decide +kernel
theorem dX8_in_7 : decode cX8_in 7 = .ok (.if_icmp .gt 7, 3) := by decide +kernel
theorem dX8_in_10 : decode cX8_in 10 = .ok (.iconst 1, 1) := by decide +kernel
theorem dX8_in_11 : decode cX8_in 11 = .ok (.goto 4, 3) := by decide +kernel
theorem dX8_in_14 : decode cX8_in 14 = .ok (.iconst 0, 1) := by decide +kernel
theorem dX8_in_15 : decode cX8_in 15 = .ok (.ireturn, 1) := by decide +kernel
theorem dX8_copies_0 : decode cX8_copies 0 = .ok (.iconst 0, 1) := by decide +kernel
theorem dX8_copies_1 : decode cX8_copies 1 = .ok (.istore_n 2, 1) := by decide +kernel
theorem dX8_copies_2 : decode cX8_copies 2 = .ok (.iload_n 2, 1) := by decide +kernel
theorem dX8_copies_3 : decode cX8_copies 3 = .ok (.sipush 316, 3) := by decide +kernel
theorem dX8_copies_6 : decode cX8_copies 6 = .ok (.if_icmp .ge 15, 3) := by decide +kernel
theorem dX8_copies_9 : decode cX8_copies 9 = .ok (.aload_n 1, 1) := by decide +kernel
theorem dX8_copies_10 : decode cX8_copies 10 = .ok (.iload_n 2, 1) := by decide +kernel
theorem dX8_copies_11 : decode cX8_copies 11 = .ok (.aload_n 0, 1) := by decide +kernel
theorem dX8_copies_12 : decode cX8_copies 12 = .ok (.iload_n 2, 1) := by decide +kernel
theorem dX8_copies_13 : decode cX8_copies 13 = .ok (.iaload, 1) := by decide +kernel
theorem dX8_copies_14 : decode cX8_copies 14 = .ok (.iastore, 1) := by decide +kernel
theorem dX8_copies_15 : decode cX8_copies 15 = .ok (.iinc 2 1, 3) := by decide +kernel
theorem dX8_copies_18 : decode cX8_copies 18 = .ok (.goto (-16), 3) := by decide +kernel
theorem dX8_copies_21 : decode cX8_copies 21 = .ok (.return_, 1) := by decide +kernel
theorem dX8_changes_0 : decode cX8_changes 0 = .ok (.aload_n 0, 1) := by decide +kernel
theorem dX8_changes_1 : decode cX8_changes 1 = .ok (.getfield 28, 3) := by decide +kernel
theorem dX8_changes_4 : decode cX8_changes 4 = .ok (.ifCond .eq 4, 3) := by decide +kernel
theorem dX8_changes_7 : decode cX8_changes 7 = .ok (.return_, 1) := by decide +kernel
theorem dX8_changes_8 : decode cX8_changes 8 = .ok (.aload_n 0, 1) := by decide +kernel
theorem dX8_changes_9 : decode cX8_changes 9 = .ok (.getfield 32, 3) := by decide +kernel
theorem dX8_changes_12 : decode cX8_changes 12 = .ok (.iconst 4, 1) := by decide +kernel
theorem dX8_changes_13 : decode cX8_changes 13 = .ok (.if_icmp .ne 44, 3) := by decide +kernel
theorem dX8_changes_16 : decode cX8_changes 16 = .ok (.iconst 0, 1) := by decide +kernel
theorem dX8_changes_17 : decode cX8_changes 17 = .ok (.istore_n 1, 1) := by decide +kernel
theorem dX8_changes_18 : decode cX8_changes 18 = .ok (.iload_n 1, 1) := by decide +kernel
theorem dX8_changes_19 : decode cX8_changes 19 = .ok (.sipush 948, 3) := by decide +kernel
theorem dX8_changes_22 : decode cX8_changes 22 = .ok (.if_icmp .ge 25, 3) := by decide +kernel
theorem dX8_changes_25 : decode cX8_changes 25 = .ok (.aload_n 0, 1) := by decide +kernel
theorem dX8_changes_26 : decode cX8_changes 26 = .ok (.getfield 13, 3) := by decide +kernel
theorem dX8_changes_29 : decode cX8_changes 29 = .ok (.iload_n 1, 1) := by decide +kernel
theorem dX8_changes_30 : decode cX8_changes 30 = .ok (.aload_n 0, 1) := by decide +kernel
theorem dX8_changes_31 : decode cX8_changes 31 = .ok (.getfield 13, 3) := by decide +kernel
theorem dX8_changes_34 : decode cX8_changes 34 = .ok (.iload_n 1, 1) := by decide +kernel
theorem dX8_changes_35 : decode cX8_changes 35 = .ok (.sipush 316, 3) := by decide +kernel
theorem dX8_changes_38 : decode cX8_changes 38 = .ok (.iadd, 1) := by decide +kernel
theorem dX8_changes_39 : decode cX8_changes 39 = .ok (.iaload, 1) := by decide +kernel
theorem dX8_changes_40 : decode cX8_changes 40 = .ok (.iastore, 1) := by decide +kernel
theorem dX8_changes_41 : decode cX8_changes 41 = .ok (.iinc 1 1, 3) := by decide +kernel
theorem dX8_changes_44 : decode cX8_changes 44 = .ok (.goto (-26), 3) := by decide +kernel
theorem dX8_changes_47 : decode cX8_changes 47 = .ok (.aload_n 0, 1) := by decide +kernel
theorem dX8_changes_48 : decode cX8_changes 48 = .ok (.dup, 1) := by decide +kernel
theorem dX8_changes_49 : decode cX8_changes 49 = .ok (.getfield 32, 3) := by decide +kernel
theorem dX8_changes_52 : decode cX8_changes 52 = .ok (.iconst 1, 1) := by decide +kernel
theorem dX8_changes_53 : decode cX8_changes 53 = .ok (.isub, 1) := by decide +kernel
theorem dX8_changes_54 : decode cX8_changes 54 = .ok (.putfield 32, 3) := by decide +kernel
theorem dX8_changes_57 : decode cX8_changes 57 = .ok (.iconst 0, 1) := by decide +kernel
theorem dX8_changes_58 : decode cX8_changes 58 = .ok (.istore_n 1, 1) := by decide +kernel
theorem dX8_changes_59 : decode cX8_changes 59 = .ok (.iload_n 1, 1) := by decide +kernel
theorem dX8_changes_60 : decode cX8_changes 60 = .ok (.sipush 316, 3) := by decide +kernel
theorem dX8_changes_63 : decode cX8_changes 63 = .ok (.if_icmp .ge 30, 3) := by decide +kernel
theorem dX8_changes_66 : decode cX8_changes 66 = .ok (.aload_n 0, 1) := by decide +kernel
theorem dX8_changes_67 : decode cX8_changes 67 = .ok (.getfield 13, 3) := by decide +kernel
theorem dX8_changes_70 : decode cX8_changes 70 = .ok (.sipush 316, 3) := by decide +kernel
theorem dX8_changes_73 : decode cX8_changes 73 = .ok (.aload_n 0, 1) := by decide +kernel
theorem dX8_changes_74 : decode cX8_changes 74 = .ok (.getfield 32, 3) := by decide +kernel
theorem dX8_changes_77 : decode cX8_changes 77 = .ok (.imul, 1) := by decide +kernel
theorem dX8_changes_78 : decode cX8_changes 78 = .ok (.iload_n 1, 1) := by decide +kernel
theorem dX8_changes_79 : decode cX8_changes 79 = .ok (.iadd, 1) := by decide +kernel
theorem dX8_changes_80 : decode cX8_changes 80 = .ok (.aload_n 0, 1) := by decide +kernel
theorem dX8_changes_81 : decode cX8_changes 81 = .ok (.getfield 7, 3) := by decide +kernel
theorem dX8_changes_84 : decode cX8_changes 84 = .ok (.iload_n 1, 1) := by decide +kernel
theorem dX8_changes_85 : decode cX8_changes 85 = .ok (.iaload, 1) := by decide +kernel
theorem dX8_changes_86 : decode cX8_changes 86 = .ok (.iastore, 1) := by decide +kernel
theorem dX8_changes_87 : decode cX8_changes 87 = .ok (.iinc 1 1, 3) := by decide +kernel
theorem dX8_changes_90 : decode cX8_changes 90 = .ok (.goto (-31), 3) := by decide +kernel
theorem dX8_changes_93 : decode cX8_changes 93 = .ok (.aload_n 0, 1) := by decide +kernel
theorem dX8_changes_94 : decode cX8_changes 94 = .ok (.dup, 1) := by decide +kernel
theorem dX8_changes_95 : decode cX8_changes 95 = .ok (.getfield 32, 3) := by decide +kernel
theorem dX8_changes_98 : decode cX8_changes 98 = .ok (.iconst 1, 1) := by decide +kernel
theorem dX8_changes_99 : decode cX8_changes 99 = .ok (.iadd, 1) := by decide +kernel
theorem dX8_changes_100 : decode cX8_changes 100 = .ok (.putfield 32, 3) := by decide +kernel
theorem dX8_changes_103 : decode cX8_changes 103 = .ok (.return_, 1) := by decide +kernel
theorem dX8_isLot_0 : decode cX8_isLot 0 = .ok (.iload_n 1, 1) := by decide +kernel
theorem dX8_isLot_1 : decode cX8_isLot 1 = .ok (.ifCond .lt 17, 3) := by decide +kernel
theorem dX8_isLot_4 : decode cX8_isLot 4 = .ok (.iload_n 1, 1) := by decide +kernel
theorem dX8_isLot_5 : decode cX8_isLot 5 = .ok (.aload_n 0, 1) := by decide +kernel
theorem dX8_isLot_6 : decode cX8_isLot 6 = .ok (.getfield 7, 3) := by decide +kernel
theorem dX8_isLot_9 : decode cX8_isLot 9 = .ok (.iconst 0, 1) := by decide +kernel
theorem dX8_isLot_10 : decode cX8_isLot 10 = .ok (.iaload, 1) := by decide +kernel
theorem dX8_isLot_11 : decode cX8_isLot 11 = .ok (.if_icmp .ge 7, 3) := by decide +kernel
theorem dX8_isLot_14 : decode cX8_isLot 14 = .ok (.iconst 1, 1) := by decide +kernel
theorem dX8_isLot_15 : decode cX8_isLot 15 = .ok (.goto 4, 3) := by decide +kernel
theorem dX8_isLot_18 : decode cX8_isLot 18 = .ok (.iconst 0, 1) := by decide +kernel
theorem dX8_isLot_19 : decode cX8_isLot 19 = .ok (.ireturn, 1) := by decide +kernel
theorem dX8_isBuyer_0 : decode cX8_isBuyer 0 = .ok (.iload_n 1, 1) := by decide +kernel
theorem dX8_isBuyer_1 : decode cX8_isBuyer 1 = .ok (.ifCond .lt 17, 3) := by decide +kernel
theorem dX8_isBuyer_4 : decode cX8_isBuyer 4 = .ok (.iload_n 1, 1) := by decide +kernel
theorem dX8_isBuyer_5 : decode cX8_isBuyer 5 = .ok (.aload_n 0, 1) := by decide +kernel
theorem dX8_isBuyer_6 : decode cX8_isBuyer 6 = .ok (.getfield 7, 3) := by decide +kernel
theorem dX8_isBuyer_9 : decode cX8_isBuyer 9 = .ok (.iconst 1, 1) := by decide +kernel
theorem dX8_isBuyer_10 : decode cX8_isBuyer 10 = .ok (.iaload, 1) := by decide +kernel
theorem dX8_isBuyer_11 : decode cX8_isBuyer 11 = .ok (.if_icmp .ge 7, 3) := by decide +kernel
theorem dX8_isBuyer_14 : decode cX8_isBuyer 14 = .ok (.iconst 1, 1) := by decide +kernel
theorem dX8_isBuyer_15 : decode cX8_isBuyer 15 = .ok (.goto 4, 3) := by decide +kernel
theorem dX8_isBuyer_18 : decode cX8_isBuyer 18 = .ok (.iconst 0, 1) := by decide +kernel
theorem dX8_isBuyer_19 : decode cX8_isBuyer 19 = .ok (.ireturn, 1) := by decide +kernel
theorem dX8_of_0 : decode cX8_of 0 = .ok (.aload_n 0, 1) := by decide +kernel
theorem dX8_of_1 : decode cX8_of 1 = .ok (.getfield 7, 3) := by decide +kernel
theorem dX8_of_4 : decode cX8_of 4 = .ok (.bipush 9, 2) := by decide +kernel
theorem dX8_of_6 : decode cX8_of 6 = .ok (.bipush 20, 2) := by decide +kernel
theorem dX8_of_8 : decode cX8_of 8 = .ok (.iload_n 1, 1) := by decide +kernel
theorem dX8_of_9 : decode cX8_of 9 = .ok (.imul, 1) := by decide +kernel
theorem dX8_of_10 : decode cX8_of 10 = .ok (.iadd, 1) := by decide +kernel
theorem dX8_of_11 : decode cX8_of 11 = .ok (.iload_n 2, 1) := by decide +kernel
theorem dX8_of_12 : decode cX8_of 12 = .ok (.iadd, 1) := by decide +kernel
theorem dX8_of_13 : decode cX8_of 13 = .ok (.iaload, 1) := by decide +kernel
theorem dX8_of_14 : decode cX8_of 14 = .ok (.ireturn, 1) := by decide +kernel
theorem dX8_isOpen_0 : decode cX8_isOpen 0 = .ok (.aload_n 0, 1) := by decide +kernel
theorem dX8_isOpen_1 : decode cX8_isOpen 1 = .ok (.iload_n 1, 1) := by decide +kernel
theorem dX8_isOpen_2 : decode cX8_isOpen 2 = .ok (.iconst 4, 1) := by decide +kernel
theorem dX8_isOpen_3 : decode cX8_isOpen 3 = .ok (.invokevirtual 36, 3) := by decide +kernel
theorem dX8_isOpen_6 : decode cX8_isOpen 6 = .ok (.ifCond .ne 7, 3) := by decide +kernel
theorem dX8_isOpen_9 : decode cX8_isOpen 9 = .ok (.iconst 1, 1) := by decide +kernel
theorem dX8_isOpen_10 : decode cX8_isOpen 10 = .ok (.goto 4, 3) := by decide +kernel
theorem dX8_isOpen_13 : decode cX8_isOpen 13 = .ok (.iconst 0, 1) := by decide +kernel
theorem dX8_isOpen_14 : decode cX8_isOpen 14 = .ok (.ireturn, 1) := by decide +kernel
theorem dX8_hold_0 : decode cX8_hold 0 = .ok (.sipush 136, 3) := by decide +kernel
theorem dX8_hold_3 : decode cX8_hold 3 = .ok (.bipush 18, 2) := by decide +kernel
theorem dX8_hold_5 : decode cX8_hold 5 = .ok (.iload_n 0, 1) := by decide +kernel
theorem dX8_hold_6 : decode cX8_hold 6 = .ok (.imul, 1) := by decide +kernel
theorem dX8_hold_7 : decode cX8_hold 7 = .ok (.iadd, 1) := by decide +kernel
theorem dX8_hold_8 : decode cX8_hold 8 = .ok (.iconst 3, 1) := by decide +kernel
theorem dX8_hold_9 : decode cX8_hold 9 = .ok (.iload_n 1, 1) := by decide +kernel
theorem dX8_hold_10 : decode cX8_hold 10 = .ok (.imul, 1) := by decide +kernel
theorem dX8_hold_11 : decode cX8_hold 11 = .ok (.iadd, 1) := by decide +kernel
theorem dX8_hold_12 : decode cX8_hold 12 = .ok (.iload_n 2, 1) := by decide +kernel
theorem dX8_hold_13 : decode cX8_hold 13 = .ok (.iadd, 1) := by decide +kernel
theorem dX8_hold_14 : decode cX8_hold 14 = .ok (.ireturn, 1) := by decide +kernel
theorem dX8_holds_0 : decode cX8_holds 0 = .ok (.aload_n 0, 1) := by decide +kernel
theorem dX8_holds_1 : decode cX8_holds 1 = .ok (.getfield 7, 3) := by decide +kernel
theorem dX8_holds_4 : decode cX8_holds 4 = .ok (.iload_n 1, 1) := by decide +kernel
theorem dX8_holds_5 : decode cX8_holds 5 = .ok (.iload_n 2, 1) := by decide +kernel
theorem dX8_holds_6 : decode cX8_holds 6 = .ok (.iconst 0, 1) := by decide +kernel
theorem dX8_holds_7 : decode cX8_holds 7 = .ok (.invokestatic 40, 3) := by decide +kernel
theorem dX8_holds_10 : decode cX8_holds 10 = .ok (.iaload, 1) := by decide +kernel
theorem dX8_holds_11 : decode cX8_holds 11 = .ok (.ireturn, 1) := by decide +kernel
theorem dX8_allHeld_0 : decode cX8_allHeld 0 = .ok (.iconst 0, 1) := by decide +kernel
theorem dX8_allHeld_1 : decode cX8_allHeld 1 = .ok (.istore_n 2, 1) := by decide +kernel
theorem dX8_allHeld_2 : decode cX8_allHeld 2 = .ok (.iconst 0, 1) := by decide +kernel
theorem dX8_allHeld_3 : decode cX8_allHeld 3 = .ok (.istore_n 3, 1) := by decide +kernel
theorem dX8_allHeld_4 : decode cX8_allHeld 4 = .ok (.iload_n 3, 1) := by decide +kernel
theorem dX8_allHeld_5 : decode cX8_allHeld 5 = .ok (.aload_n 0, 1) := by decide +kernel
theorem dX8_allHeld_6 : decode cX8_allHeld 6 = .ok (.getfield 7, 3) := by decide +kernel
theorem dX8_allHeld_9 : decode cX8_allHeld 9 = .ok (.iconst 1, 1) := by decide +kernel
theorem dX8_allHeld_10 : decode cX8_allHeld 10 = .ok (.iaload, 1) := by decide +kernel
theorem dX8_allHeld_11 : decode cX8_allHeld 11 = .ok (.if_icmp .ge 18, 3) := by decide +kernel
theorem dX8_allHeld_14 : decode cX8_allHeld 14 = .ok (.iload_n 2, 1) := by decide +kernel
theorem dX8_allHeld_15 : decode cX8_allHeld 15 = .ok (.aload_n 0, 1) := by decide +kernel
theorem dX8_allHeld_16 : decode cX8_allHeld 16 = .ok (.iload_n 3, 1) := by decide +kernel
theorem dX8_allHeld_17 : decode cX8_allHeld 17 = .ok (.iload_n 1, 1) := by decide +kernel
theorem dX8_allHeld_18 : decode cX8_allHeld 18 = .ok (.invokevirtual 44, 3) := by decide +kernel
theorem dX8_allHeld_21 : decode cX8_allHeld 21 = .ok (.iadd, 1) := by decide +kernel
theorem dX8_allHeld_22 : decode cX8_allHeld 22 = .ok (.istore_n 2, 1) := by decide +kernel
theorem dX8_allHeld_23 : decode cX8_allHeld 23 = .ok (.iinc 3 1, 3) := by decide +kernel
theorem dX8_allHeld_26 : decode cX8_allHeld 26 = .ok (.goto (-22), 3) := by decide +kernel
theorem dX8_allHeld_29 : decode cX8_allHeld 29 = .ok (.iload_n 2, 1) := by decide +kernel
theorem dX8_allHeld_30 : decode cX8_allHeld 30 = .ok (.ireturn, 1) := by decide +kernel
theorem dX8_loads_0 : decode cX8_loads 0 = .ok (.aload_n 0, 1) := by decide +kernel
theorem dX8_loads_1 : decode cX8_loads 1 = .ok (.aload_n 0, 1) := by decide +kernel
theorem dX8_loads_2 : decode cX8_loads 2 = .ok (.iload_n 1, 1) := by decide +kernel
theorem dX8_loads_3 : decode cX8_loads 3 = .ok (.iconst 0, 1) := by decide +kernel
theorem dX8_loads_4 : decode cX8_loads 4 = .ok (.invokevirtual 36, 3) := by decide +kernel
theorem dX8_loads_7 : decode cX8_loads 7 = .ok (.putfield 47, 3) := by decide +kernel
theorem dX8_loads_10 : decode cX8_loads 10 = .ok (.iconst 0, 1) := by decide +kernel
theorem dX8_loads_11 : decode cX8_loads 11 = .ok (.istore_n 2, 1) := by decide +kernel
theorem dX8_loads_12 : decode cX8_loads 12 = .ok (.iload_n 2, 1) := by decide +kernel
theorem dX8_loads_13 : decode cX8_loads 13 = .ok (.aload_n 0, 1) := by decide +kernel
theorem dX8_loads_14 : decode cX8_loads 14 = .ok (.getfield 47, 3) := by decide +kernel
theorem dX8_loads_17 : decode cX8_loads 17 = .ok (.if_icmp .ge 24, 3) := by decide +kernel
theorem dX8_loads_20 : decode cX8_loads 20 = .ok (.aload_n 0, 1) := by decide +kernel
theorem dX8_loads_21 : decode cX8_loads 21 = .ok (.getfield 22, 3) := by decide +kernel
theorem dX8_loads_24 : decode cX8_loads 24 = .ok (.iload_n 2, 1) := by decide +kernel
theorem dX8_loads_25 : decode cX8_loads 25 = .ok (.aload_n 0, 1) := by decide +kernel
theorem dX8_loads_26 : decode cX8_loads 26 = .ok (.iload_n 1, 1) := by decide +kernel
theorem dX8_loads_27 : decode cX8_loads 27 = .ok (.bipush 8, 2) := by decide +kernel
theorem dX8_loads_29 : decode cX8_loads 29 = .ok (.iload_n 2, 1) := by decide +kernel
theorem dX8_loads_30 : decode cX8_loads 30 = .ok (.iadd, 1) := by decide +kernel
theorem dX8_loads_31 : decode cX8_loads 31 = .ok (.invokevirtual 36, 3) := by decide +kernel
theorem dX8_loads_34 : decode cX8_loads 34 = .ok (.iastore, 1) := by decide +kernel
theorem dX8_loads_35 : decode cX8_loads 35 = .ok (.iinc 2 1, 3) := by decide +kernel
theorem dX8_loads_38 : decode cX8_loads 38 = .ok (.goto (-26), 3) := by decide +kernel
theorem dX8_loads_41 : decode cX8_loads 41 = .ok (.return_, 1) := by decide +kernel
theorem dX8_lays_0 : decode cX8_lays 0 = .ok (.aload_n 0, 1) := by decide +kernel
theorem dX8_lays_1 : decode cX8_lays 1 = .ok (.getfield 7, 3) := by decide +kernel
theorem dX8_lays_4 : decode cX8_lays 4 = .ok (.bipush 9, 2) := by decide +kernel
theorem dX8_lays_6 : decode cX8_lays 6 = .ok (.bipush 20, 2) := by decide +kernel
theorem dX8_lays_8 : decode cX8_lays 8 = .ok (.iload_n 1, 1) := by decide +kernel
theorem dX8_lays_9 : decode cX8_lays 9 = .ok (.imul, 1) := by decide +kernel
theorem dX8_lays_10 : decode cX8_lays 10 = .ok (.iadd, 1) := by decide +kernel
theorem dX8_lays_11 : decode cX8_lays 11 = .ok (.iconst 0, 1) := by decide +kernel
theorem dX8_lays_12 : decode cX8_lays 12 = .ok (.iadd, 1) := by decide +kernel
theorem dX8_lays_13 : decode cX8_lays 13 = .ok (.aload_n 0, 1) := by decide +kernel
theorem dX8_lays_14 : decode cX8_lays 14 = .ok (.getfield 47, 3) := by decide +kernel
theorem dX8_lays_17 : decode cX8_lays 17 = .ok (.iastore, 1) := by decide +kernel
theorem dX8_lays_18 : decode cX8_lays 18 = .ok (.iconst 0, 1) := by decide +kernel
theorem dX8_lays_19 : decode cX8_lays 19 = .ok (.istore_n 2, 1) := by decide +kernel
theorem dX8_lays_20 : decode cX8_lays 20 = .ok (.iload_n 2, 1) := by decide +kernel
theorem dX8_lays_21 : decode cX8_lays 21 = .ok (.aload_n 0, 1) := by decide +kernel
theorem dX8_lays_22 : decode cX8_lays 22 = .ok (.getfield 47, 3) := by decide +kernel
theorem dX8_lays_25 : decode cX8_lays 25 = .ok (.if_icmp .ge 32, 3) := by decide +kernel
theorem dX8_lays_28 : decode cX8_lays 28 = .ok (.aload_n 0, 1) := by decide +kernel
theorem dX8_lays_29 : decode cX8_lays 29 = .ok (.getfield 7, 3) := by decide +kernel
theorem dX8_lays_32 : decode cX8_lays 32 = .ok (.bipush 9, 2) := by decide +kernel
theorem dX8_lays_34 : decode cX8_lays 34 = .ok (.bipush 20, 2) := by decide +kernel
theorem dX8_lays_36 : decode cX8_lays 36 = .ok (.iload_n 1, 1) := by decide +kernel
theorem dX8_lays_37 : decode cX8_lays 37 = .ok (.imul, 1) := by decide +kernel
theorem dX8_lays_38 : decode cX8_lays 38 = .ok (.iadd, 1) := by decide +kernel
theorem dX8_lays_39 : decode cX8_lays 39 = .ok (.bipush 8, 2) := by decide +kernel
theorem dX8_lays_41 : decode cX8_lays 41 = .ok (.iadd, 1) := by decide +kernel
theorem dX8_lays_42 : decode cX8_lays 42 = .ok (.iload_n 2, 1) := by decide +kernel
theorem dX8_lays_43 : decode cX8_lays 43 = .ok (.iadd, 1) := by decide +kernel
theorem dX8_lays_44 : decode cX8_lays 44 = .ok (.aload_n 0, 1) := by decide +kernel
theorem dX8_lays_45 : decode cX8_lays 45 = .ok (.getfield 22, 3) := by decide +kernel
theorem dX8_lays_48 : decode cX8_lays 48 = .ok (.iload_n 2, 1) := by decide +kernel
theorem dX8_lays_49 : decode cX8_lays 49 = .ok (.iaload, 1) := by decide +kernel
theorem dX8_lays_50 : decode cX8_lays 50 = .ok (.iastore, 1) := by decide +kernel
theorem dX8_lays_51 : decode cX8_lays 51 = .ok (.iinc 2 1, 3) := by decide +kernel
theorem dX8_lays_54 : decode cX8_lays 54 = .ok (.goto (-34), 3) := by decide +kernel
theorem dX8_lays_57 : decode cX8_lays 57 = .ok (.return_, 1) := by decide +kernel
theorem dX8_all_0 : decode cX8_all 0 = .ok (.iconst 0, 1) := by decide +kernel
theorem dX8_all_1 : decode cX8_all 1 = .ok (.istore_n 1, 1) := by decide +kernel
theorem dX8_all_2 : decode cX8_all 2 = .ok (.iconst 0, 1) := by decide +kernel
theorem dX8_all_3 : decode cX8_all 3 = .ok (.istore_n 2, 1) := by decide +kernel
theorem dX8_all_4 : decode cX8_all 4 = .ok (.iload_n 2, 1) := by decide +kernel
theorem dX8_all_5 : decode cX8_all 5 = .ok (.aload_n 0, 1) := by decide +kernel
theorem dX8_all_6 : decode cX8_all 6 = .ok (.getfield 47, 3) := by decide +kernel
theorem dX8_all_9 : decode cX8_all 9 = .ok (.if_icmp .ge 18, 3) := by decide +kernel
theorem dX8_all_12 : decode cX8_all 12 = .ok (.iload_n 1, 1) := by decide +kernel
theorem dX8_all_13 : decode cX8_all 13 = .ok (.aload_n 0, 1) := by decide +kernel
theorem dX8_all_14 : decode cX8_all 14 = .ok (.getfield 22, 3) := by decide +kernel
theorem dX8_all_17 : decode cX8_all 17 = .ok (.iload_n 2, 1) := by decide +kernel
theorem dX8_all_18 : decode cX8_all 18 = .ok (.iaload, 1) := by decide +kernel
theorem dX8_all_19 : decode cX8_all 19 = .ok (.iadd, 1) := by decide +kernel
theorem dX8_all_20 : decode cX8_all 20 = .ok (.istore_n 1, 1) := by decide +kernel
theorem dX8_all_21 : decode cX8_all 21 = .ok (.iinc 2 1, 3) := by decide +kernel
theorem dX8_all_24 : decode cX8_all 24 = .ok (.goto (-20), 3) := by decide +kernel
theorem dX8_all_27 : decode cX8_all 27 = .ok (.iload_n 1, 1) := by decide +kernel
theorem dX8_all_28 : decode cX8_all 28 = .ok (.ireturn, 1) := by decide +kernel
theorem dX8_leaves_0 : decode cX8_leaves 0 = .ok (.iconst 0, 1) := by decide +kernel
theorem dX8_leaves_1 : decode cX8_leaves 1 = .ok (.istore_n 1, 1) := by decide +kernel
theorem dX8_leaves_2 : decode cX8_leaves 2 = .ok (.iconst 0, 1) := by decide +kernel
theorem dX8_leaves_3 : decode cX8_leaves 3 = .ok (.istore_n 2, 1) := by decide +kernel
theorem dX8_leaves_4 : decode cX8_leaves 4 = .ok (.iload_n 2, 1) := by decide +kernel
theorem dX8_leaves_5 : decode cX8_leaves 5 = .ok (.aload_n 0, 1) := by decide +kernel
theorem dX8_leaves_6 : decode cX8_leaves 6 = .ok (.getfield 47, 3) := by decide +kernel
theorem dX8_leaves_9 : decode cX8_leaves 9 = .ok (.if_icmp .ge 38, 3) := by decide +kernel
theorem dX8_leaves_12 : decode cX8_leaves 12 = .ok (.aload_n 0, 1) := by decide +kernel
theorem dX8_leaves_13 : decode cX8_leaves 13 = .ok (.getfield 22, 3) := by decide +kernel
theorem dX8_leaves_16 : decode cX8_leaves 16 = .ok (.iload_n 1, 1) := by decide +kernel
theorem dX8_leaves_17 : decode cX8_leaves 17 = .ok (.aload_n 0, 1) := by decide +kernel
theorem dX8_leaves_18 : decode cX8_leaves 18 = .ok (.getfield 22, 3) := by decide +kernel
theorem dX8_leaves_21 : decode cX8_leaves 21 = .ok (.iload_n 2, 1) := by decide +kernel
theorem dX8_leaves_22 : decode cX8_leaves 22 = .ok (.iaload, 1) := by decide +kernel
theorem dX8_leaves_23 : decode cX8_leaves 23 = .ok (.iastore, 1) := by decide +kernel
theorem dX8_leaves_24 : decode cX8_leaves 24 = .ok (.iload_n 1, 1) := by decide +kernel
theorem dX8_leaves_25 : decode cX8_leaves 25 = .ok (.aload_n 0, 1) := by decide +kernel
theorem dX8_leaves_26 : decode cX8_leaves 26 = .ok (.getfield 22, 3) := by decide +kernel
theorem dX8_leaves_29 : decode cX8_leaves 29 = .ok (.iload_n 2, 1) := by decide +kernel
theorem dX8_leaves_30 : decode cX8_leaves 30 = .ok (.iaload, 1) := by decide +kernel
theorem dX8_leaves_31 : decode cX8_leaves 31 = .ok (.ifCond .le 7, 3) := by decide +kernel
theorem dX8_leaves_34 : decode cX8_leaves 34 = .ok (.iconst 1, 1) := by decide +kernel
theorem dX8_leaves_35 : decode cX8_leaves 35 = .ok (.goto 4, 3) := by decide +kernel
theorem dX8_leaves_38 : decode cX8_leaves 38 = .ok (.iconst 0, 1) := by decide +kernel
theorem dX8_leaves_39 : decode cX8_leaves 39 = .ok (.iadd, 1) := by decide +kernel
theorem dX8_leaves_40 : decode cX8_leaves 40 = .ok (.istore_n 1, 1) := by decide +kernel
theorem dX8_leaves_41 : decode cX8_leaves 41 = .ok (.iinc 2 1, 3) := by decide +kernel
theorem dX8_leaves_44 : decode cX8_leaves 44 = .ok (.goto (-40), 3) := by decide +kernel
theorem dX8_leaves_47 : decode cX8_leaves 47 = .ok (.aload_n 0, 1) := by decide +kernel
theorem dX8_leaves_48 : decode cX8_leaves 48 = .ok (.iload_n 1, 1) := by decide +kernel
theorem dX8_leaves_49 : decode cX8_leaves 49 = .ok (.putfield 47, 3) := by decide +kernel
theorem dX8_leaves_52 : decode cX8_leaves 52 = .ok (.return_, 1) := by decide +kernel
theorem dX8_month_0 : decode cX8_month 0 = .ok (.iconst 0, 1) := by decide +kernel
theorem dX8_month_1 : decode cX8_month 1 = .ok (.istore_n 2, 1) := by decide +kernel
theorem dX8_month_2 : decode cX8_month 2 = .ok (.iconst 0, 1) := by decide +kernel
theorem dX8_month_3 : decode cX8_month 3 = .ok (.istore_n 3, 1) := by decide +kernel
theorem dX8_month_4 : decode cX8_month 4 = .ok (.iload_n 3, 1) := by decide +kernel
theorem dX8_month_5 : decode cX8_month 5 = .ok (.aload_n 0, 1) := by decide +kernel
theorem dX8_month_6 : decode cX8_month 6 = .ok (.getfield 47, 3) := by decide +kernel
theorem dX8_month_9 : decode cX8_month 9 = .ok (.if_icmp .ge 62, 3) := by decide +kernel
theorem dX8_month_12 : decode cX8_month 12 = .ok (.aload_n 0, 1) := by decide +kernel
theorem dX8_month_13 : decode cX8_month 13 = .ok (.getfield 22, 3) := by decide +kernel
theorem dX8_month_16 : decode cX8_month 16 = .ok (.iload_n 3, 1) := by decide +kernel
theorem dX8_month_17 : decode cX8_month 17 = .ok (.iaload, 1) := by decide +kernel
theorem dX8_month_18 : decode cX8_month 18 = .ok (.iload_n 1, 1) := by decide +kernel
theorem dX8_month_19 : decode cX8_month 19 = .ok (.imul, 1) := by decide +kernel
theorem dX8_month_20 : decode cX8_month 20 = .ok (.sipush 1000, 3) := by decide +kernel
theorem dX8_month_23 : decode cX8_month 23 = .ok (.idiv, 1) := by decide +kernel
theorem dX8_month_24 : decode cX8_month 24 = .ok (.istore 4, 2) := by decide +kernel
theorem dX8_month_26 : decode cX8_month 26 = .ok (.aload_n 0, 1) := by decide +kernel
theorem dX8_month_27 : decode cX8_month 27 = .ok (.getfield 22, 3) := by decide +kernel
theorem dX8_month_30 : decode cX8_month 30 = .ok (.iload_n 3, 1) := by decide +kernel
theorem dX8_month_31 : decode cX8_month 31 = .ok (.iaload, 1) := by decide +kernel
theorem dX8_month_32 : decode cX8_month 32 = .ok (.sipush 1800, 3) := by decide +kernel
theorem dX8_month_35 : decode cX8_month 35 = .ok (.if_icmp .ge 10, 3) := by decide +kernel
theorem dX8_month_38 : decode cX8_month 38 = .ok (.iconst 2, 1) := by decide +kernel
theorem dX8_month_39 : decode cX8_month 39 = .ok (.iload 4, 2) := by decide +kernel
theorem dX8_month_41 : decode cX8_month 41 = .ok (.imul, 1) := by decide +kernel
theorem dX8_month_42 : decode cX8_month 42 = .ok (.goto 5, 3) := by decide +kernel
theorem dX8_month_45 : decode cX8_month 45 = .ok (.iload 4, 2) := by decide +kernel
theorem dX8_month_47 : decode cX8_month 47 = .ok (.istore 4, 2) := by decide +kernel
theorem dX8_month_49 : decode cX8_month 49 = .ok (.aload_n 0, 1) := by decide +kernel
theorem dX8_month_50 : decode cX8_month 50 = .ok (.getfield 22, 3) := by decide +kernel
theorem dX8_month_53 : decode cX8_month 53 = .ok (.iload_n 3, 1) := by decide +kernel
theorem dX8_month_54 : decode cX8_month 54 = .ok (.dup2, 1) := by decide +kernel
theorem dX8_month_55 : decode cX8_month 55 = .ok (.iaload, 1) := by decide +kernel
theorem dX8_month_56 : decode cX8_month 56 = .ok (.iload 4, 2) := by decide +kernel
theorem dX8_month_58 : decode cX8_month 58 = .ok (.isub, 1) := by decide +kernel
theorem dX8_month_59 : decode cX8_month 59 = .ok (.iastore, 1) := by decide +kernel
theorem dX8_month_60 : decode cX8_month 60 = .ok (.iload_n 2, 1) := by decide +kernel
theorem dX8_month_61 : decode cX8_month 61 = .ok (.iload 4, 2) := by decide +kernel
theorem dX8_month_63 : decode cX8_month 63 = .ok (.iadd, 1) := by decide +kernel
theorem dX8_month_64 : decode cX8_month 64 = .ok (.istore_n 2, 1) := by decide +kernel
theorem dX8_month_65 : decode cX8_month 65 = .ok (.iinc 3 1, 3) := by decide +kernel
theorem dX8_month_68 : decode cX8_month 68 = .ok (.goto (-64), 3) := by decide +kernel
theorem dX8_month_71 : decode cX8_month 71 = .ok (.aload_n 0, 1) := by decide +kernel
theorem dX8_month_72 : decode cX8_month 72 = .ok (.invokevirtual 50, 3) := by decide +kernel
theorem dX8_month_75 : decode cX8_month 75 = .ok (.iload_n 2, 1) := by decide +kernel
theorem dX8_month_76 : decode cX8_month 76 = .ok (.ireturn, 1) := by decide +kernel
theorem dX8_casesIn_0 : decode cX8_casesIn 0 = .ok (.iconst 0, 1) := by decide +kernel
theorem dX8_casesIn_1 : decode cX8_casesIn 1 = .ok (.istore_n 3, 1) := by decide +kernel
theorem dX8_casesIn_2 : decode cX8_casesIn 2 = .ok (.iconst 0, 1) := by decide +kernel
theorem dX8_casesIn_3 : decode cX8_casesIn 3 = .ok (.istore 4, 2) := by decide +kernel
theorem dX8_casesIn_5 : decode cX8_casesIn 5 = .ok (.iload 4, 2) := by decide +kernel
theorem dX8_casesIn_7 : decode cX8_casesIn 7 = .ok (.iload_n 2, 1) := by decide +kernel
theorem dX8_casesIn_8 : decode cX8_casesIn 8 = .ok (.if_icmp .ge 22, 3) := by decide +kernel
theorem dX8_casesIn_11 : decode cX8_casesIn 11 = .ok (.iload_n 3, 1) := by decide +kernel
theorem dX8_casesIn_12 : decode cX8_casesIn 12 = .ok (.aload_n 0, 1) := by decide +kernel
theorem dX8_casesIn_13 : decode cX8_casesIn 13 = .ok (.aload_n 0, 1) := by decide +kernel
theorem dX8_casesIn_14 : decode cX8_casesIn 14 = .ok (.iload_n 1, 1) := by decide +kernel
theorem dX8_casesIn_15 : decode cX8_casesIn 15 = .ok (.iconst 1, 1) := by decide +kernel
theorem dX8_casesIn_16 : decode cX8_casesIn 16 = .ok (.invokevirtual 36, 3) := by decide +kernel
theorem dX8_casesIn_19 : decode cX8_casesIn 19 = .ok (.invokevirtual 53, 3) := by decide +kernel
theorem dX8_casesIn_22 : decode cX8_casesIn 22 = .ok (.iadd, 1) := by decide +kernel
theorem dX8_casesIn_23 : decode cX8_casesIn 23 = .ok (.istore_n 3, 1) := by decide +kernel
theorem dX8_casesIn_24 : decode cX8_casesIn 24 = .ok (.iinc 4 1, 3) := by decide +kernel
theorem dX8_casesIn_27 : decode cX8_casesIn 27 = .ok (.goto (-22), 3) := by decide +kernel
theorem dX8_casesIn_30 : decode cX8_casesIn 30 = .ok (.iload_n 3, 1) := by decide +kernel
theorem dX8_casesIn_31 : decode cX8_casesIn 31 = .ok (.ifCond .ge 8, 3) := by decide +kernel
theorem dX8_casesIn_34 : decode cX8_casesIn 34 = .ok (.ldc 57, 2) := by decide +kernel
theorem dX8_casesIn_36 : decode cX8_casesIn 36 = .ok (.goto 10, 3) := by decide +kernel
theorem dX8_casesIn_39 : decode cX8_casesIn 39 = .ok (.aload_n 0, 1) := by decide +kernel
theorem dX8_casesIn_40 : decode cX8_casesIn 40 = .ok (.invokevirtual 58, 3) := by decide +kernel
theorem dX8_casesIn_43 : decode cX8_casesIn 43 = .ok (.bipush 90, 2) := by decide +kernel
theorem dX8_casesIn_45 : decode cX8_casesIn 45 = .ok (.idiv, 1) := by decide +kernel
theorem dX8_casesIn_46 : decode cX8_casesIn 46 = .ok (.ireturn, 1) := by decide +kernel
theorem dX8_expected_0 : decode cX8_expected 0 = .ok (.aload_n 0, 1) := by decide +kernel
theorem dX8_expected_1 : decode cX8_expected 1 = .ok (.iload_n 1, 1) := by decide +kernel
theorem dX8_expected_2 : decode cX8_expected 2 = .ok (.invokevirtual 62, 3) := by decide +kernel
theorem dX8_expected_5 : decode cX8_expected 5 = .ok (.aload_n 0, 1) := by decide +kernel
theorem dX8_expected_6 : decode cX8_expected 6 = .ok (.iload_n 1, 1) := by decide +kernel
theorem dX8_expected_7 : decode cX8_expected 7 = .ok (.aload_n 0, 1) := by decide +kernel
theorem dX8_expected_8 : decode cX8_expected 8 = .ok (.getfield 7, 3) := by decide +kernel
theorem dX8_expected_11 : decode cX8_expected 11 = .ok (.bipush 8, 2) := by decide +kernel
theorem dX8_expected_13 : decode cX8_expected 13 = .ok (.iaload, 1) := by decide +kernel
theorem dX8_expected_14 : decode cX8_expected 14 = .ok (.invokevirtual 66, 3) := by decide +kernel
theorem dX8_expected_17 : decode cX8_expected 17 = .ok (.bipush 100, 2) := by decide +kernel
theorem dX8_expected_19 : decode cX8_expected 19 = .ok (.aload_n 0, 1) := by decide +kernel
theorem dX8_expected_20 : decode cX8_expected 20 = .ok (.getfield 7, 3) := by decide +kernel
theorem dX8_expected_23 : decode cX8_expected 23 = .ok (.bipush 7, 2) := by decide +kernel
theorem dX8_expected_25 : decode cX8_expected 25 = .ok (.iaload, 1) := by decide +kernel
theorem dX8_expected_26 : decode cX8_expected 26 = .ok (.isub, 1) := by decide +kernel
theorem dX8_expected_27 : decode cX8_expected 27 = .ok (.imul, 1) := by decide +kernel
theorem dX8_expected_28 : decode cX8_expected 28 = .ok (.bipush 100, 2) := by decide +kernel
theorem dX8_expected_30 : decode cX8_expected 30 = .ok (.idiv, 1) := by decide +kernel
theorem dX8_expected_31 : decode cX8_expected 31 = .ok (.ireturn, 1) := by decide +kernel
theorem dX8_needy_0 : decode cX8_needy 0 = .ok (.iconst 0, 1) := by decide +kernel
theorem dX8_needy_1 : decode cX8_needy 1 = .ok (.istore_n 1, 1) := by decide +kernel
theorem dX8_needy_2 : decode cX8_needy 2 = .ok (.iload_n 1, 1) := by decide +kernel
theorem dX8_needy_3 : decode cX8_needy 3 = .ok (.aload_n 0, 1) := by decide +kernel
theorem dX8_needy_4 : decode cX8_needy 4 = .ok (.getfield 47, 3) := by decide +kernel
theorem dX8_needy_7 : decode cX8_needy 7 = .ok (.iconst 1, 1) := by decide +kernel
theorem dX8_needy_8 : decode cX8_needy 8 = .ok (.isub, 1) := by decide +kernel
theorem dX8_needy_9 : decode cX8_needy 9 = .ok (.if_icmp .ge 23, 3) := by decide +kernel
theorem dX8_needy_12 : decode cX8_needy 12 = .ok (.aload_n 0, 1) := by decide +kernel
theorem dX8_needy_13 : decode cX8_needy 13 = .ok (.getfield 22, 3) := by decide +kernel
theorem dX8_needy_16 : decode cX8_needy 16 = .ok (.iload_n 1, 1) := by decide +kernel
theorem dX8_needy_17 : decode cX8_needy 17 = .ok (.iaload, 1) := by decide +kernel
theorem dX8_needy_18 : decode cX8_needy 18 = .ok (.sipush 2250, 3) := by decide +kernel
theorem dX8_needy_21 : decode cX8_needy 21 = .ok (.if_icmp .ge 5, 3) := by decide +kernel
theorem dX8_needy_24 : decode cX8_needy 24 = .ok (.iload_n 1, 1) := by decide +kernel
theorem dX8_needy_25 : decode cX8_needy 25 = .ok (.ireturn, 1) := by decide +kernel
theorem dX8_needy_26 : decode cX8_needy 26 = .ok (.iinc 1 1, 3) := by decide +kernel
theorem dX8_needy_29 : decode cX8_needy 29 = .ok (.goto (-27), 3) := by decide +kernel
theorem dX8_needy_32 : decode cX8_needy 32 = .ok (.ldc 57, 2) := by decide +kernel
theorem dX8_needy_34 : decode cX8_needy 34 = .ok (.ireturn, 1) := by decide +kernel
theorem dX8_tops_0 : decode cX8_tops 0 = .ok (.aload_n 0, 1) := by decide +kernel
theorem dX8_tops_1 : decode cX8_tops 1 = .ok (.invokevirtual 69, 3) := by decide +kernel
theorem dX8_tops_4 : decode cX8_tops 4 = .ok (.ifCond .lt 81, 3) := by decide +kernel
theorem dX8_tops_7 : decode cX8_tops 7 = .ok (.aload_n 0, 1) := by decide +kernel
theorem dX8_tops_8 : decode cX8_tops 8 = .ok (.invokevirtual 69, 3) := by decide +kernel
theorem dX8_tops_11 : decode cX8_tops 11 = .ok (.istore_n 1, 1) := by decide +kernel
theorem dX8_tops_12 : decode cX8_tops 12 = .ok (.aload_n 0, 1) := by decide +kernel
theorem dX8_tops_13 : decode cX8_tops 13 = .ok (.getfield 47, 3) := by decide +kernel
theorem dX8_tops_16 : decode cX8_tops 16 = .ok (.iconst 1, 1) := by decide +kernel
theorem dX8_tops_17 : decode cX8_tops 17 = .ok (.isub, 1) := by decide +kernel
theorem dX8_tops_18 : decode cX8_tops 18 = .ok (.istore_n 2, 1) := by decide +kernel
theorem dX8_tops_19 : decode cX8_tops 19 = .ok (.aload_n 0, 1) := by decide +kernel
theorem dX8_tops_20 : decode cX8_tops 20 = .ok (.getfield 22, 3) := by decide +kernel
theorem dX8_tops_23 : decode cX8_tops 23 = .ok (.iload_n 2, 1) := by decide +kernel
theorem dX8_tops_24 : decode cX8_tops 24 = .ok (.iaload, 1) := by decide +kernel
theorem dX8_tops_25 : decode cX8_tops 25 = .ok (.sipush 2250, 3) := by decide +kernel
theorem dX8_tops_28 : decode cX8_tops 28 = .ok (.aload_n 0, 1) := by decide +kernel
theorem dX8_tops_29 : decode cX8_tops 29 = .ok (.getfield 22, 3) := by decide +kernel
theorem dX8_tops_32 : decode cX8_tops 32 = .ok (.iload_n 1, 1) := by decide +kernel
theorem dX8_tops_33 : decode cX8_tops 33 = .ok (.iaload, 1) := by decide +kernel
theorem dX8_tops_34 : decode cX8_tops 34 = .ok (.isub, 1) := by decide +kernel
theorem dX8_tops_35 : decode cX8_tops 35 = .ok (.if_icmp .ge 12, 3) := by decide +kernel
theorem dX8_tops_38 : decode cX8_tops 38 = .ok (.aload_n 0, 1) := by decide +kernel
theorem dX8_tops_39 : decode cX8_tops 39 = .ok (.getfield 22, 3) := by decide +kernel
theorem dX8_tops_42 : decode cX8_tops 42 = .ok (.iload_n 2, 1) := by decide +kernel
theorem dX8_tops_43 : decode cX8_tops 43 = .ok (.iaload, 1) := by decide +kernel
theorem dX8_tops_44 : decode cX8_tops 44 = .ok (.goto 13, 3) := by decide +kernel
theorem dX8_tops_47 : decode cX8_tops 47 = .ok (.sipush 2250, 3) := by decide +kernel
theorem dX8_tops_50 : decode cX8_tops 50 = .ok (.aload_n 0, 1) := by decide +kernel
theorem dX8_tops_51 : decode cX8_tops 51 = .ok (.getfield 22, 3) := by decide +kernel
theorem dX8_tops_54 : decode cX8_tops 54 = .ok (.iload_n 1, 1) := by decide +kernel
theorem dX8_tops_55 : decode cX8_tops 55 = .ok (.iaload, 1) := by decide +kernel
theorem dX8_tops_56 : decode cX8_tops 56 = .ok (.isub, 1) := by decide +kernel
theorem dX8_tops_57 : decode cX8_tops 57 = .ok (.istore_n 3, 1) := by decide +kernel
theorem dX8_tops_58 : decode cX8_tops 58 = .ok (.aload_n 0, 1) := by decide +kernel
theorem dX8_tops_59 : decode cX8_tops 59 = .ok (.getfield 22, 3) := by decide +kernel
theorem dX8_tops_62 : decode cX8_tops 62 = .ok (.iload_n 1, 1) := by decide +kernel
theorem dX8_tops_63 : decode cX8_tops 63 = .ok (.dup2, 1) := by decide +kernel
theorem dX8_tops_64 : decode cX8_tops 64 = .ok (.iaload, 1) := by decide +kernel
theorem dX8_tops_65 : decode cX8_tops 65 = .ok (.iload_n 3, 1) := by decide +kernel
theorem dX8_tops_66 : decode cX8_tops 66 = .ok (.iadd, 1) := by decide +kernel
theorem dX8_tops_67 : decode cX8_tops 67 = .ok (.iastore, 1) := by decide +kernel
theorem dX8_tops_68 : decode cX8_tops 68 = .ok (.aload_n 0, 1) := by decide +kernel
theorem dX8_tops_69 : decode cX8_tops 69 = .ok (.getfield 22, 3) := by decide +kernel
theorem dX8_tops_72 : decode cX8_tops 72 = .ok (.iload_n 2, 1) := by decide +kernel
theorem dX8_tops_73 : decode cX8_tops 73 = .ok (.dup2, 1) := by decide +kernel
theorem dX8_tops_74 : decode cX8_tops 74 = .ok (.iaload, 1) := by decide +kernel
theorem dX8_tops_75 : decode cX8_tops 75 = .ok (.iload_n 3, 1) := by decide +kernel
theorem dX8_tops_76 : decode cX8_tops 76 = .ok (.isub, 1) := by decide +kernel
theorem dX8_tops_77 : decode cX8_tops 77 = .ok (.iastore, 1) := by decide +kernel
theorem dX8_tops_78 : decode cX8_tops 78 = .ok (.aload_n 0, 1) := by decide +kernel
theorem dX8_tops_79 : decode cX8_tops 79 = .ok (.invokevirtual 50, 3) := by decide +kernel
theorem dX8_tops_82 : decode cX8_tops 82 = .ok (.goto (-82), 3) := by decide +kernel
theorem dX8_tops_85 : decode cX8_tops 85 = .ok (.return_, 1) := by decide +kernel
theorem dX8_lot_0 : decode cX8_lot 0 = .ok (.iload_n 1, 1) := by decide +kernel
theorem dX8_lot_1 : decode cX8_lot 1 = .ok (.iconst 1, 1) := by decide +kernel
theorem dX8_lot_2 : decode cX8_lot 2 = .ok (.bipush 12, 2) := by decide +kernel
theorem dX8_lot_4 : decode cX8_lot 4 = .ok (.invokestatic 72, 3) := by decide +kernel
theorem dX8_lot_7 : decode cX8_lot 7 = .ok (.ifCond .eq 13, 3) := by decide +kernel
theorem dX8_lot_10 : decode cX8_lot 10 = .ok (.iload_n 2, 1) := by decide +kernel
theorem dX8_lot_11 : decode cX8_lot 11 = .ok (.iconst 0, 1) := by decide +kernel
theorem dX8_lot_12 : decode cX8_lot 12 = .ok (.bipush 50, 2) := by decide +kernel
theorem dX8_lot_14 : decode cX8_lot 14 = .ok (.invokestatic 72, 3) := by decide +kernel
theorem dX8_lot_17 : decode cX8_lot 17 = .ok (.ifCond .ne 6, 3) := by decide +kernel
theorem dX8_lot_20 : decode cX8_lot 20 = .ok (.ldc 76, 2) := by decide +kernel
theorem dX8_lot_22 : decode cX8_lot 22 = .ok (.ireturn, 1) := by decide +kernel
theorem dX8_lot_23 : decode cX8_lot 23 = .ok (.aload_n 0, 1) := by decide +kernel
theorem dX8_lot_24 : decode cX8_lot 24 = .ok (.getfield 7, 3) := by decide +kernel
theorem dX8_lot_27 : decode cX8_lot 27 = .ok (.iconst 0, 1) := by decide +kernel
theorem dX8_lot_28 : decode cX8_lot 28 = .ok (.iaload, 1) := by decide +kernel
theorem dX8_lot_29 : decode cX8_lot 29 = .ok (.istore_n 3, 1) := by decide +kernel
theorem dX8_lot_30 : decode cX8_lot 30 = .ok (.iload_n 3, 1) := by decide +kernel
theorem dX8_lot_31 : decode cX8_lot 31 = .ok (.bipush 6, 2) := by decide +kernel
theorem dX8_lot_33 : decode cX8_lot 33 = .ok (.if_icmp .ne 6, 3) := by decide +kernel
theorem dX8_lot_36 : decode cX8_lot 36 = .ok (.ldc 77, 2) := by decide +kernel
theorem dX8_lot_38 : decode cX8_lot 38 = .ok (.ireturn, 1) := by decide +kernel
theorem dX8_lot_39 : decode cX8_lot 39 = .ok (.aload_n 0, 1) := by decide +kernel
theorem dX8_lot_40 : decode cX8_lot 40 = .ok (.invokevirtual 78, 3) := by decide +kernel
theorem dX8_lot_43 : decode cX8_lot 43 = .ok (.aload_n 0, 1) := by decide +kernel
theorem dX8_lot_44 : decode cX8_lot 44 = .ok (.getfield 7, 3) := by decide +kernel
theorem dX8_lot_47 : decode cX8_lot 47 = .ok (.bipush 9, 2) := by decide +kernel
theorem dX8_lot_49 : decode cX8_lot 49 = .ok (.bipush 20, 2) := by decide +kernel
theorem dX8_lot_51 : decode cX8_lot 51 = .ok (.iload_n 3, 1) := by decide +kernel
theorem dX8_lot_52 : decode cX8_lot 52 = .ok (.imul, 1) := by decide +kernel
theorem dX8_lot_53 : decode cX8_lot 53 = .ok (.iadd, 1) := by decide +kernel
theorem dX8_lot_54 : decode cX8_lot 54 = .ok (.iconst 0, 1) := by decide +kernel
theorem dX8_lot_55 : decode cX8_lot 55 = .ok (.iadd, 1) := by decide +kernel
theorem dX8_lot_56 : decode cX8_lot 56 = .ok (.iload_n 1, 1) := by decide +kernel
theorem dX8_lot_57 : decode cX8_lot 57 = .ok (.iastore, 1) := by decide +kernel
theorem dX8_lot_58 : decode cX8_lot 58 = .ok (.aload_n 0, 1) := by decide +kernel
theorem dX8_lot_59 : decode cX8_lot 59 = .ok (.getfield 7, 3) := by decide +kernel
theorem dX8_lot_62 : decode cX8_lot 62 = .ok (.bipush 9, 2) := by decide +kernel
theorem dX8_lot_64 : decode cX8_lot 64 = .ok (.bipush 20, 2) := by decide +kernel
theorem dX8_lot_66 : decode cX8_lot 66 = .ok (.iload_n 3, 1) := by decide +kernel
theorem dX8_lot_67 : decode cX8_lot 67 = .ok (.imul, 1) := by decide +kernel
theorem dX8_lot_68 : decode cX8_lot 68 = .ok (.iadd, 1) := by decide +kernel
theorem dX8_lot_69 : decode cX8_lot 69 = .ok (.iconst 1, 1) := by decide +kernel
theorem dX8_lot_70 : decode cX8_lot 70 = .ok (.iadd, 1) := by decide +kernel
theorem dX8_lot_71 : decode cX8_lot 71 = .ok (.iload_n 2, 1) := by decide +kernel
theorem dX8_lot_72 : decode cX8_lot 72 = .ok (.iastore, 1) := by decide +kernel
theorem dX8_lot_73 : decode cX8_lot 73 = .ok (.iconst 0, 1) := by decide +kernel
theorem dX8_lot_74 : decode cX8_lot 74 = .ok (.istore 4, 2) := by decide +kernel
theorem dX8_lot_76 : decode cX8_lot 76 = .ok (.iload 4, 2) := by decide +kernel
theorem dX8_lot_78 : decode cX8_lot 78 = .ok (.iload_n 1, 1) := by decide +kernel
theorem dX8_lot_79 : decode cX8_lot 79 = .ok (.if_icmp .ge 30, 3) := by decide +kernel
theorem dX8_lot_82 : decode cX8_lot 82 = .ok (.aload_n 0, 1) := by decide +kernel
theorem dX8_lot_83 : decode cX8_lot 83 = .ok (.getfield 7, 3) := by decide +kernel
theorem dX8_lot_86 : decode cX8_lot 86 = .ok (.bipush 9, 2) := by decide +kernel
theorem dX8_lot_88 : decode cX8_lot 88 = .ok (.bipush 20, 2) := by decide +kernel
theorem dX8_lot_90 : decode cX8_lot 90 = .ok (.iload_n 3, 1) := by decide +kernel
theorem dX8_lot_91 : decode cX8_lot 91 = .ok (.imul, 1) := by decide +kernel
theorem dX8_lot_92 : decode cX8_lot 92 = .ok (.iadd, 1) := by decide +kernel
theorem dX8_lot_93 : decode cX8_lot 93 = .ok (.bipush 8, 2) := by decide +kernel
theorem dX8_lot_95 : decode cX8_lot 95 = .ok (.iadd, 1) := by decide +kernel
theorem dX8_lot_96 : decode cX8_lot 96 = .ok (.iload 4, 2) := by decide +kernel
theorem dX8_lot_98 : decode cX8_lot 98 = .ok (.iadd, 1) := by decide +kernel
theorem dX8_lot_99 : decode cX8_lot 99 = .ok (.sipush 2250, 3) := by decide +kernel
theorem dX8_lot_102 : decode cX8_lot 102 = .ok (.iastore, 1) := by decide +kernel
theorem dX8_lot_103 : decode cX8_lot 103 = .ok (.iinc 4 1, 3) := by decide +kernel
theorem dX8_lot_106 : decode cX8_lot 106 = .ok (.goto (-30), 3) := by decide +kernel
theorem dX8_lot_109 : decode cX8_lot 109 = .ok (.aload_n 0, 1) := by decide +kernel
theorem dX8_lot_110 : decode cX8_lot 110 = .ok (.getfield 7, 3) := by decide +kernel
theorem dX8_lot_113 : decode cX8_lot 113 = .ok (.iconst 0, 1) := by decide +kernel
theorem dX8_lot_114 : decode cX8_lot 114 = .ok (.dup2, 1) := by decide +kernel
theorem dX8_lot_115 : decode cX8_lot 115 = .ok (.iaload, 1) := by decide +kernel
theorem dX8_lot_116 : decode cX8_lot 116 = .ok (.iconst 1, 1) := by decide +kernel
theorem dX8_lot_117 : decode cX8_lot 117 = .ok (.iadd, 1) := by decide +kernel
theorem dX8_lot_118 : decode cX8_lot 118 = .ok (.iastore, 1) := by decide +kernel
theorem dX8_lot_119 : decode cX8_lot 119 = .ok (.iload_n 3, 1) := by decide +kernel
theorem dX8_lot_120 : decode cX8_lot 120 = .ok (.ireturn, 1) := by decide +kernel
theorem dX8_quote_0 : decode cX8_quote 0 = .ok (.aload_n 0, 1) := by decide +kernel
theorem dX8_quote_1 : decode cX8_quote 1 = .ok (.iload_n 1, 1) := by decide +kernel
theorem dX8_quote_2 : decode cX8_quote 2 = .ok (.iconst 3, 1) := by decide +kernel
theorem dX8_quote_3 : decode cX8_quote 3 = .ok (.invokevirtual 36, 3) := by decide +kernel
theorem dX8_quote_6 : decode cX8_quote 6 = .ok (.ifCond .ne 7, 3) := by decide +kernel
theorem dX8_quote_9 : decode cX8_quote 9 = .ok (.iconst 0, 1) := by decide +kernel
theorem dX8_quote_10 : decode cX8_quote 10 = .ok (.goto 16, 3) := by decide +kernel
theorem dX8_quote_13 : decode cX8_quote 13 = .ok (.aload_n 0, 1) := by decide +kernel
theorem dX8_quote_14 : decode cX8_quote 14 = .ok (.iload_n 1, 1) := by decide +kernel
theorem dX8_quote_15 : decode cX8_quote 15 = .ok (.iconst 2, 1) := by decide +kernel
theorem dX8_quote_16 : decode cX8_quote 16 = .ok (.invokevirtual 36, 3) := by decide +kernel
theorem dX8_quote_19 : decode cX8_quote 19 = .ok (.aload_n 0, 1) := by decide +kernel
theorem dX8_quote_20 : decode cX8_quote 20 = .ok (.iload_n 1, 1) := by decide +kernel
theorem dX8_quote_21 : decode cX8_quote 21 = .ok (.iconst 3, 1) := by decide +kernel
theorem dX8_quote_22 : decode cX8_quote 22 = .ok (.invokevirtual 36, 3) := by decide +kernel
theorem dX8_quote_25 : decode cX8_quote 25 = .ok (.idiv, 1) := by decide +kernel
theorem dX8_quote_26 : decode cX8_quote 26 = .ok (.istore_n 2, 1) := by decide +kernel
theorem dX8_quote_27 : decode cX8_quote 27 = .ok (.bipush 10, 2) := by decide +kernel
theorem dX8_quote_29 : decode cX8_quote 29 = .ok (.iload_n 2, 1) := by decide +kernel
theorem dX8_quote_30 : decode cX8_quote 30 = .ok (.iload_n 2, 1) := by decide +kernel
theorem dX8_quote_31 : decode cX8_quote 31 = .ok (.imul, 1) := by decide +kernel
theorem dX8_quote_32 : decode cX8_quote 32 = .ok (.bipush 100, 2) := by decide +kernel
theorem dX8_quote_34 : decode cX8_quote 34 = .ok (.idiv, 1) := by decide +kernel
theorem dX8_quote_35 : decode cX8_quote 35 = .ok (.iadd, 1) := by decide +kernel
theorem dX8_quote_36 : decode cX8_quote 36 = .ok (.ireturn, 1) := by decide +kernel
theorem dX8_tasted_0 : decode cX8_tasted 0 = .ok (.iconst 0, 1) := by decide +kernel
theorem dX8_tasted_1 : decode cX8_tasted 1 = .ok (.istore_n 1, 1) := by decide +kernel
theorem dX8_tasted_2 : decode cX8_tasted 2 = .ok (.iload_n 1, 1) := by decide +kernel
theorem dX8_tasted_3 : decode cX8_tasted 3 = .ok (.aload_n 0, 1) := by decide +kernel
theorem dX8_tasted_4 : decode cX8_tasted 4 = .ok (.getfield 47, 3) := by decide +kernel
theorem dX8_tasted_7 : decode cX8_tasted 7 = .ok (.if_icmp .ge 22, 3) := by decide +kernel
theorem dX8_tasted_10 : decode cX8_tasted 10 = .ok (.aload_n 0, 1) := by decide +kernel
theorem dX8_tasted_11 : decode cX8_tasted 11 = .ok (.getfield 22, 3) := by decide +kernel
theorem dX8_tasted_14 : decode cX8_tasted 14 = .ok (.iload_n 1, 1) := by decide +kernel
theorem dX8_tasted_15 : decode cX8_tasted 15 = .ok (.iaload, 1) := by decide +kernel
theorem dX8_tasted_16 : decode cX8_tasted 16 = .ok (.bipush 10, 2) := by decide +kernel
theorem dX8_tasted_18 : decode cX8_tasted 18 = .ok (.if_icmp .lt 5, 3) := by decide +kernel
theorem dX8_tasted_21 : decode cX8_tasted 21 = .ok (.iload_n 1, 1) := by decide +kernel
theorem dX8_tasted_22 : decode cX8_tasted 22 = .ok (.ireturn, 1) := by decide +kernel
theorem dX8_tasted_23 : decode cX8_tasted 23 = .ok (.iinc 1 1, 3) := by decide +kernel
theorem dX8_tasted_26 : decode cX8_tasted 26 = .ok (.goto (-24), 3) := by decide +kernel
theorem dX8_tasted_29 : decode cX8_tasted 29 = .ok (.ldc 57, 2) := by decide +kernel
theorem dX8_tasted_31 : decode cX8_tasted 31 = .ok (.ireturn, 1) := by decide +kernel
theorem dX8_taste_0 : decode cX8_taste 0 = .ok (.aload_n 0, 1) := by decide +kernel
theorem dX8_taste_1 : decode cX8_taste 1 = .ok (.iload_n 1, 1) := by decide +kernel
theorem dX8_taste_2 : decode cX8_taste 2 = .ok (.invokevirtual 81, 3) := by decide +kernel
theorem dX8_taste_5 : decode cX8_taste 5 = .ok (.ifCond .eq 13, 3) := by decide +kernel
theorem dX8_taste_8 : decode cX8_taste 8 = .ok (.iload_n 2, 1) := by decide +kernel
theorem dX8_taste_9 : decode cX8_taste 9 = .ok (.iconst 0, 1) := by decide +kernel
theorem dX8_taste_10 : decode cX8_taste 10 = .ok (.bipush 100, 2) := by decide +kernel
theorem dX8_taste_12 : decode cX8_taste 12 = .ok (.invokestatic 72, 3) := by decide +kernel
theorem dX8_taste_15 : decode cX8_taste 15 = .ok (.ifCond .ne 6, 3) := by decide +kernel
theorem dX8_taste_18 : decode cX8_taste 18 = .ok (.ldc 76, 2) := by decide +kernel
theorem dX8_taste_20 : decode cX8_taste 20 = .ok (.ireturn, 1) := by decide +kernel
theorem dX8_taste_21 : decode cX8_taste 21 = .ok (.aload_n 0, 1) := by decide +kernel
theorem dX8_taste_22 : decode cX8_taste 22 = .ok (.iload_n 1, 1) := by decide +kernel
theorem dX8_taste_23 : decode cX8_taste 23 = .ok (.invokevirtual 62, 3) := by decide +kernel
theorem dX8_taste_26 : decode cX8_taste 26 = .ok (.aload_n 0, 1) := by decide +kernel
theorem dX8_taste_27 : decode cX8_taste 27 = .ok (.iload_n 1, 1) := by decide +kernel
theorem dX8_taste_28 : decode cX8_taste 28 = .ok (.invokevirtual 85, 3) := by decide +kernel
theorem dX8_taste_31 : decode cX8_taste 31 = .ok (.ifCond .eq 10, 3) := by decide +kernel
theorem dX8_taste_34 : decode cX8_taste 34 = .ok (.aload_n 0, 1) := by decide +kernel
theorem dX8_taste_35 : decode cX8_taste 35 = .ok (.invokevirtual 88, 3) := by decide +kernel
theorem dX8_taste_38 : decode cX8_taste 38 = .ok (.ifCond .ge 6, 3) := by decide +kernel
theorem dX8_taste_41 : decode cX8_taste 41 = .ok (.ldc 91, 2) := by decide +kernel
theorem dX8_taste_43 : decode cX8_taste 43 = .ok (.ireturn, 1) := by decide +kernel
theorem dX8_taste_44 : decode cX8_taste 44 = .ok (.aload_n 0, 1) := by decide +kernel
theorem dX8_taste_45 : decode cX8_taste 45 = .ok (.invokevirtual 78, 3) := by decide +kernel
theorem dX8_taste_48 : decode cX8_taste 48 = .ok (.aload_n 0, 1) := by decide +kernel
theorem dX8_taste_49 : decode cX8_taste 49 = .ok (.getfield 22, 3) := by decide +kernel
theorem dX8_taste_52 : decode cX8_taste 52 = .ok (.aload_n 0, 1) := by decide +kernel
theorem dX8_taste_53 : decode cX8_taste 53 = .ok (.invokevirtual 88, 3) := by decide +kernel
theorem dX8_taste_56 : decode cX8_taste 56 = .ok (.dup2, 1) := by decide +kernel
theorem dX8_taste_57 : decode cX8_taste 57 = .ok (.iaload, 1) := by decide +kernel
theorem dX8_taste_58 : decode cX8_taste 58 = .ok (.bipush 10, 2) := by decide +kernel
theorem dX8_taste_60 : decode cX8_taste 60 = .ok (.isub, 1) := by decide +kernel
theorem dX8_taste_61 : decode cX8_taste 61 = .ok (.iastore, 1) := by decide +kernel
theorem dX8_taste_62 : decode cX8_taste 62 = .ok (.aload_n 0, 1) := by decide +kernel
theorem dX8_taste_63 : decode cX8_taste 63 = .ok (.invokevirtual 50, 3) := by decide +kernel
theorem dX8_taste_66 : decode cX8_taste 66 = .ok (.aload_n 0, 1) := by decide +kernel
theorem dX8_taste_67 : decode cX8_taste 67 = .ok (.iload_n 1, 1) := by decide +kernel
theorem dX8_taste_68 : decode cX8_taste 68 = .ok (.invokevirtual 92, 3) := by decide +kernel
theorem dX8_taste_71 : decode cX8_taste 71 = .ok (.aload_n 0, 1) := by decide +kernel
theorem dX8_taste_72 : decode cX8_taste 72 = .ok (.getfield 7, 3) := by decide +kernel
theorem dX8_taste_75 : decode cX8_taste 75 = .ok (.bipush 9, 2) := by decide +kernel
theorem dX8_taste_77 : decode cX8_taste 77 = .ok (.bipush 20, 2) := by decide +kernel
theorem dX8_taste_79 : decode cX8_taste 79 = .ok (.iload_n 1, 1) := by decide +kernel
theorem dX8_taste_80 : decode cX8_taste 80 = .ok (.imul, 1) := by decide +kernel
theorem dX8_taste_81 : decode cX8_taste 81 = .ok (.iadd, 1) := by decide +kernel
theorem dX8_taste_82 : decode cX8_taste 82 = .ok (.iconst 2, 1) := by decide +kernel
theorem dX8_taste_83 : decode cX8_taste 83 = .ok (.iadd, 1) := by decide +kernel
theorem dX8_taste_84 : decode cX8_taste 84 = .ok (.dup2, 1) := by decide +kernel
theorem dX8_taste_85 : decode cX8_taste 85 = .ok (.iaload, 1) := by decide +kernel
theorem dX8_taste_86 : decode cX8_taste 86 = .ok (.iload_n 2, 1) := by decide +kernel
theorem dX8_taste_87 : decode cX8_taste 87 = .ok (.iadd, 1) := by decide +kernel
theorem dX8_taste_88 : decode cX8_taste 88 = .ok (.iastore, 1) := by decide +kernel
theorem dX8_taste_89 : decode cX8_taste 89 = .ok (.aload_n 0, 1) := by decide +kernel
theorem dX8_taste_90 : decode cX8_taste 90 = .ok (.getfield 7, 3) := by decide +kernel
theorem dX8_taste_93 : decode cX8_taste 93 = .ok (.bipush 9, 2) := by decide +kernel
theorem dX8_taste_95 : decode cX8_taste 95 = .ok (.bipush 20, 2) := by decide +kernel
theorem dX8_taste_97 : decode cX8_taste 97 = .ok (.iload_n 1, 1) := by decide +kernel
theorem dX8_taste_98 : decode cX8_taste 98 = .ok (.imul, 1) := by decide +kernel
theorem dX8_taste_99 : decode cX8_taste 99 = .ok (.iadd, 1) := by decide +kernel
theorem dX8_taste_100 : decode cX8_taste 100 = .ok (.iconst 3, 1) := by decide +kernel
theorem dX8_taste_101 : decode cX8_taste 101 = .ok (.iadd, 1) := by decide +kernel
theorem dX8_taste_102 : decode cX8_taste 102 = .ok (.dup2, 1) := by decide +kernel
theorem dX8_taste_103 : decode cX8_taste 103 = .ok (.iaload, 1) := by decide +kernel
theorem dX8_taste_104 : decode cX8_taste 104 = .ok (.iconst 1, 1) := by decide +kernel
theorem dX8_taste_105 : decode cX8_taste 105 = .ok (.iadd, 1) := by decide +kernel
theorem dX8_taste_106 : decode cX8_taste 106 = .ok (.iastore, 1) := by decide +kernel
theorem dX8_taste_107 : decode cX8_taste 107 = .ok (.aload_n 0, 1) := by decide +kernel
theorem dX8_taste_108 : decode cX8_taste 108 = .ok (.iload_n 1, 1) := by decide +kernel
theorem dX8_taste_109 : decode cX8_taste 109 = .ok (.invokevirtual 95, 3) := by decide +kernel
theorem dX8_taste_112 : decode cX8_taste 112 = .ok (.ireturn, 1) := by decide +kernel
theorem dX8_top_0 : decode cX8_top 0 = .ok (.aload_n 0, 1) := by decide +kernel
theorem dX8_top_1 : decode cX8_top 1 = .ok (.iload_n 1, 1) := by decide +kernel
theorem dX8_top_2 : decode cX8_top 2 = .ok (.invokevirtual 81, 3) := by decide +kernel
theorem dX8_top_5 : decode cX8_top 5 = .ok (.ifCond .ne 6, 3) := by decide +kernel
theorem dX8_top_8 : decode cX8_top 8 = .ok (.ldc 76, 2) := by decide +kernel
theorem dX8_top_10 : decode cX8_top 10 = .ok (.ireturn, 1) := by decide +kernel
theorem dX8_top_11 : decode cX8_top 11 = .ok (.aload_n 0, 1) := by decide +kernel
theorem dX8_top_12 : decode cX8_top 12 = .ok (.iload_n 1, 1) := by decide +kernel
theorem dX8_top_13 : decode cX8_top 13 = .ok (.invokevirtual 62, 3) := by decide +kernel
theorem dX8_top_16 : decode cX8_top 16 = .ok (.aload_n 0, 1) := by decide +kernel
theorem dX8_top_17 : decode cX8_top 17 = .ok (.iload_n 1, 1) := by decide +kernel
theorem dX8_top_18 : decode cX8_top 18 = .ok (.invokevirtual 85, 3) := by decide +kernel
theorem dX8_top_21 : decode cX8_top 21 = .ok (.ifCond .eq 10, 3) := by decide +kernel
theorem dX8_top_24 : decode cX8_top 24 = .ok (.aload_n 0, 1) := by decide +kernel
theorem dX8_top_25 : decode cX8_top 25 = .ok (.invokevirtual 69, 3) := by decide +kernel
theorem dX8_top_28 : decode cX8_top 28 = .ok (.ifCond .ge 6, 3) := by decide +kernel
theorem dX8_top_31 : decode cX8_top 31 = .ok (.ldc 91, 2) := by decide +kernel
theorem dX8_top_33 : decode cX8_top 33 = .ok (.ireturn, 1) := by decide +kernel
theorem dX8_top_34 : decode cX8_top 34 = .ok (.aload_n 0, 1) := by decide +kernel
theorem dX8_top_35 : decode cX8_top 35 = .ok (.invokevirtual 78, 3) := by decide +kernel
theorem dX8_top_38 : decode cX8_top 38 = .ok (.aload_n 0, 1) := by decide +kernel
theorem dX8_top_39 : decode cX8_top 39 = .ok (.invokevirtual 98, 3) := by decide +kernel
theorem dX8_top_42 : decode cX8_top 42 = .ok (.aload_n 0, 1) := by decide +kernel
theorem dX8_top_43 : decode cX8_top 43 = .ok (.iload_n 1, 1) := by decide +kernel
theorem dX8_top_44 : decode cX8_top 44 = .ok (.invokevirtual 92, 3) := by decide +kernel
theorem dX8_top_47 : decode cX8_top 47 = .ok (.aload_n 0, 1) := by decide +kernel
theorem dX8_top_48 : decode cX8_top 48 = .ok (.getfield 47, 3) := by decide +kernel
theorem dX8_top_51 : decode cX8_top 51 = .ok (.ireturn, 1) := by decide +kernel
theorem dX8_passes_0 : decode cX8_passes 0 = .ok (.iconst 0, 1) := by decide +kernel
theorem dX8_passes_1 : decode cX8_passes 1 = .ok (.istore_n 1, 1) := by decide +kernel
theorem dX8_passes_2 : decode cX8_passes 2 = .ok (.iconst 0, 1) := by decide +kernel
theorem dX8_passes_3 : decode cX8_passes 3 = .ok (.istore_n 2, 1) := by decide +kernel
theorem dX8_passes_4 : decode cX8_passes 4 = .ok (.iload_n 2, 1) := by decide +kernel
theorem dX8_passes_5 : decode cX8_passes 5 = .ok (.aload_n 0, 1) := by decide +kernel
theorem dX8_passes_6 : decode cX8_passes 6 = .ok (.getfield 7, 3) := by decide +kernel
theorem dX8_passes_9 : decode cX8_passes 9 = .ok (.iconst 0, 1) := by decide +kernel
theorem dX8_passes_10 : decode cX8_passes 10 = .ok (.iaload, 1) := by decide +kernel
theorem dX8_passes_11 : decode cX8_passes 11 = .ok (.if_icmp .ge 40, 3) := by decide +kernel
theorem dX8_passes_14 : decode cX8_passes 14 = .ok (.aload_n 0, 1) := by decide +kernel
theorem dX8_passes_15 : decode cX8_passes 15 = .ok (.iload_n 2, 1) := by decide +kernel
theorem dX8_passes_16 : decode cX8_passes 16 = .ok (.invokevirtual 85, 3) := by decide +kernel
theorem dX8_passes_19 : decode cX8_passes 19 = .ok (.ifCond .eq 26, 3) := by decide +kernel
theorem dX8_passes_22 : decode cX8_passes 22 = .ok (.aload_n 0, 1) := by decide +kernel
theorem dX8_passes_23 : decode cX8_passes 23 = .ok (.iload_n 2, 1) := by decide +kernel
theorem dX8_passes_24 : decode cX8_passes 24 = .ok (.invokevirtual 62, 3) := by decide +kernel
theorem dX8_passes_27 : decode cX8_passes 27 = .ok (.iload_n 1, 1) := by decide +kernel
theorem dX8_passes_28 : decode cX8_passes 28 = .ok (.aload_n 0, 1) := by decide +kernel
theorem dX8_passes_29 : decode cX8_passes 29 = .ok (.aload_n 0, 1) := by decide +kernel
theorem dX8_passes_30 : decode cX8_passes 30 = .ok (.iload_n 2, 1) := by decide +kernel
theorem dX8_passes_31 : decode cX8_passes 31 = .ok (.iconst 1, 1) := by decide +kernel
theorem dX8_passes_32 : decode cX8_passes 32 = .ok (.invokevirtual 36, 3) := by decide +kernel
theorem dX8_passes_35 : decode cX8_passes 35 = .ok (.invokevirtual 53, 3) := by decide +kernel
theorem dX8_passes_38 : decode cX8_passes 38 = .ok (.iadd, 1) := by decide +kernel
theorem dX8_passes_39 : decode cX8_passes 39 = .ok (.istore_n 1, 1) := by decide +kernel
theorem dX8_passes_40 : decode cX8_passes 40 = .ok (.aload_n 0, 1) := by decide +kernel
theorem dX8_passes_41 : decode cX8_passes 41 = .ok (.iload_n 2, 1) := by decide +kernel
theorem dX8_passes_42 : decode cX8_passes 42 = .ok (.invokevirtual 92, 3) := by decide +kernel
theorem dX8_passes_45 : decode cX8_passes 45 = .ok (.iinc 2 1, 3) := by decide +kernel
theorem dX8_passes_48 : decode cX8_passes 48 = .ok (.goto (-44), 3) := by decide +kernel
theorem dX8_passes_51 : decode cX8_passes 51 = .ok (.aload_n 0, 1) := by decide +kernel
theorem dX8_passes_52 : decode cX8_passes 52 = .ok (.getfield 7, 3) := by decide +kernel
theorem dX8_passes_55 : decode cX8_passes 55 = .ok (.iconst 2, 1) := by decide +kernel
theorem dX8_passes_56 : decode cX8_passes 56 = .ok (.dup2, 1) := by decide +kernel
theorem dX8_passes_57 : decode cX8_passes 57 = .ok (.iaload, 1) := by decide +kernel
theorem dX8_passes_58 : decode cX8_passes 58 = .ok (.iconst 1, 1) := by decide +kernel
theorem dX8_passes_59 : decode cX8_passes 59 = .ok (.iadd, 1) := by decide +kernel
theorem dX8_passes_60 : decode cX8_passes 60 = .ok (.iastore, 1) := by decide +kernel
theorem dX8_passes_61 : decode cX8_passes 61 = .ok (.iload_n 1, 1) := by decide +kernel
theorem dX8_passes_62 : decode cX8_passes 62 = .ok (.ireturn, 1) := by decide +kernel
theorem dX8_pass_0 : decode cX8_pass 0 = .ok (.iload_n 1, 1) := by decide +kernel
theorem dX8_pass_1 : decode cX8_pass 1 = .ok (.iconst 1, 1) := by decide +kernel
theorem dX8_pass_2 : decode cX8_pass 2 = .ok (.bipush 60, 2) := by decide +kernel
theorem dX8_pass_4 : decode cX8_pass 4 = .ok (.invokestatic 72, 3) := by decide +kernel
theorem dX8_pass_7 : decode cX8_pass 7 = .ok (.ifCond .ne 6, 3) := by decide +kernel
theorem dX8_pass_10 : decode cX8_pass 10 = .ok (.ldc 76, 2) := by decide +kernel
theorem dX8_pass_12 : decode cX8_pass 12 = .ok (.ireturn, 1) := by decide +kernel
theorem dX8_pass_13 : decode cX8_pass 13 = .ok (.aload_n 0, 1) := by decide +kernel
theorem dX8_pass_14 : decode cX8_pass 14 = .ok (.getfield 7, 3) := by decide +kernel
theorem dX8_pass_17 : decode cX8_pass 17 = .ok (.iconst 2, 1) := by decide +kernel
theorem dX8_pass_18 : decode cX8_pass 18 = .ok (.iaload, 1) := by decide +kernel
theorem dX8_pass_19 : decode cX8_pass 19 = .ok (.iload_n 1, 1) := by decide +kernel
theorem dX8_pass_20 : decode cX8_pass 20 = .ok (.iadd, 1) := by decide +kernel
theorem dX8_pass_21 : decode cX8_pass 21 = .ok (.sipush 999, 3) := by decide +kernel
theorem dX8_pass_24 : decode cX8_pass 24 = .ok (.if_icmp .le 6, 3) := by decide +kernel
theorem dX8_pass_27 : decode cX8_pass 27 = .ok (.ldc 77, 2) := by decide +kernel
theorem dX8_pass_29 : decode cX8_pass 29 = .ok (.ireturn, 1) := by decide +kernel
theorem dX8_pass_30 : decode cX8_pass 30 = .ok (.aload_n 0, 1) := by decide +kernel
theorem dX8_pass_31 : decode cX8_pass 31 = .ok (.invokevirtual 78, 3) := by decide +kernel
theorem dX8_pass_34 : decode cX8_pass 34 = .ok (.iconst 0, 1) := by decide +kernel
theorem dX8_pass_35 : decode cX8_pass 35 = .ok (.istore_n 2, 1) := by decide +kernel
theorem dX8_pass_36 : decode cX8_pass 36 = .ok (.iconst 0, 1) := by decide +kernel
theorem dX8_pass_37 : decode cX8_pass 37 = .ok (.istore_n 3, 1) := by decide +kernel
theorem dX8_pass_38 : decode cX8_pass 38 = .ok (.iload_n 3, 1) := by decide +kernel
theorem dX8_pass_39 : decode cX8_pass 39 = .ok (.iload_n 1, 1) := by decide +kernel
theorem dX8_pass_40 : decode cX8_pass 40 = .ok (.if_icmp .ge 16, 3) := by decide +kernel
theorem dX8_pass_43 : decode cX8_pass 43 = .ok (.iload_n 2, 1) := by decide +kernel
theorem dX8_pass_44 : decode cX8_pass 44 = .ok (.aload_n 0, 1) := by decide +kernel
theorem dX8_pass_45 : decode cX8_pass 45 = .ok (.invokevirtual 101, 3) := by decide +kernel
theorem dX8_pass_48 : decode cX8_pass 48 = .ok (.iadd, 1) := by decide +kernel
theorem dX8_pass_49 : decode cX8_pass 49 = .ok (.istore_n 2, 1) := by decide +kernel
theorem dX8_pass_50 : decode cX8_pass 50 = .ok (.iinc 3 1, 3) := by decide +kernel
theorem dX8_pass_53 : decode cX8_pass 53 = .ok (.goto (-15), 3) := by decide +kernel
theorem dX8_pass_56 : decode cX8_pass 56 = .ok (.aload_n 0, 1) := by decide +kernel
theorem dX8_pass_57 : decode cX8_pass 57 = .ok (.getfield 7, 3) := by decide +kernel
theorem dX8_pass_60 : decode cX8_pass 60 = .ok (.iconst 3, 1) := by decide +kernel
theorem dX8_pass_61 : decode cX8_pass 61 = .ok (.dup2, 1) := by decide +kernel
theorem dX8_pass_62 : decode cX8_pass 62 = .ok (.iaload, 1) := by decide +kernel
theorem dX8_pass_63 : decode cX8_pass 63 = .ok (.iload_n 2, 1) := by decide +kernel
theorem dX8_pass_64 : decode cX8_pass 64 = .ok (.iadd, 1) := by decide +kernel
theorem dX8_pass_65 : decode cX8_pass 65 = .ok (.iastore, 1) := by decide +kernel
theorem dX8_pass_66 : decode cX8_pass 66 = .ok (.iload_n 2, 1) := by decide +kernel
theorem dX8_pass_67 : decode cX8_pass 67 = .ok (.ireturn, 1) := by decide +kernel
theorem dX8_enters_0 : decode cX8_enters 0 = .ok (.sipush 315, 3) := by decide +kernel
theorem dX8_enters_3 : decode cX8_enters 3 = .ok (.istore 7, 2) := by decide +kernel
theorem dX8_enters_5 : decode cX8_enters 5 = .ok (.iload 7, 2) := by decide +kernel
theorem dX8_enters_7 : decode cX8_enters 7 = .ok (.sipush 250, 3) := by decide +kernel
theorem dX8_enters_10 : decode cX8_enters 10 = .ok (.if_icmp .lt 26, 3) := by decide +kernel
theorem dX8_enters_13 : decode cX8_enters 13 = .ok (.aload_n 0, 1) := by decide +kernel
theorem dX8_enters_14 : decode cX8_enters 14 = .ok (.getfield 7, 3) := by decide +kernel
theorem dX8_enters_17 : decode cX8_enters 17 = .ok (.iload 7, 2) := by decide +kernel
theorem dX8_enters_19 : decode cX8_enters 19 = .ok (.aload_n 0, 1) := by decide +kernel
theorem dX8_enters_20 : decode cX8_enters 20 = .ok (.getfield 7, 3) := by decide +kernel
theorem dX8_enters_23 : decode cX8_enters 23 = .ok (.iload 7, 2) := by decide +kernel
theorem dX8_enters_25 : decode cX8_enters 25 = .ok (.bipush 6, 2) := by decide +kernel
theorem dX8_enters_27 : decode cX8_enters 27 = .ok (.isub, 1) := by decide +kernel
theorem dX8_enters_28 : decode cX8_enters 28 = .ok (.iaload, 1) := by decide +kernel
theorem dX8_enters_29 : decode cX8_enters 29 = .ok (.iastore, 1) := by decide +kernel
theorem dX8_enters_30 : decode cX8_enters 30 = .ok (.iinc 7 (-1), 3) := by decide +kernel
theorem dX8_enters_33 : decode cX8_enters 33 = .ok (.goto (-28), 3) := by decide +kernel
theorem dX8_enters_36 : decode cX8_enters 36 = .ok (.aload_n 0, 1) := by decide +kernel
theorem dX8_enters_37 : decode cX8_enters 37 = .ok (.getfield 7, 3) := by decide +kernel
theorem dX8_enters_40 : decode cX8_enters 40 = .ok (.sipush 244, 3) := by decide +kernel
theorem dX8_enters_43 : decode cX8_enters 43 = .ok (.iload_n 1, 1) := by decide +kernel
theorem dX8_enters_44 : decode cX8_enters 44 = .ok (.iastore, 1) := by decide +kernel
theorem dX8_enters_45 : decode cX8_enters 45 = .ok (.aload_n 0, 1) := by decide +kernel
theorem dX8_enters_46 : decode cX8_enters 46 = .ok (.getfield 7, 3) := by decide +kernel
theorem dX8_enters_49 : decode cX8_enters 49 = .ok (.sipush 245, 3) := by decide +kernel
theorem dX8_enters_52 : decode cX8_enters 52 = .ok (.iload_n 2, 1) := by decide +kernel
theorem dX8_enters_53 : decode cX8_enters 53 = .ok (.iastore, 1) := by decide +kernel
theorem dX8_enters_54 : decode cX8_enters 54 = .ok (.aload_n 0, 1) := by decide +kernel
theorem dX8_enters_55 : decode cX8_enters 55 = .ok (.getfield 7, 3) := by decide +kernel
theorem dX8_enters_58 : decode cX8_enters 58 = .ok (.sipush 246, 3) := by decide +kernel
theorem dX8_enters_61 : decode cX8_enters 61 = .ok (.iload_n 3, 1) := by decide +kernel
theorem dX8_enters_62 : decode cX8_enters 62 = .ok (.iastore, 1) := by decide +kernel
theorem dX8_enters_63 : decode cX8_enters 63 = .ok (.aload_n 0, 1) := by decide +kernel
theorem dX8_enters_64 : decode cX8_enters 64 = .ok (.getfield 7, 3) := by decide +kernel
theorem dX8_enters_67 : decode cX8_enters 67 = .ok (.sipush 247, 3) := by decide +kernel
theorem dX8_enters_70 : decode cX8_enters 70 = .ok (.iload 4, 2) := by decide +kernel
theorem dX8_enters_72 : decode cX8_enters 72 = .ok (.iastore, 1) := by decide +kernel
theorem dX8_enters_73 : decode cX8_enters 73 = .ok (.aload_n 0, 1) := by decide +kernel
theorem dX8_enters_74 : decode cX8_enters 74 = .ok (.getfield 7, 3) := by decide +kernel
theorem dX8_enters_77 : decode cX8_enters 77 = .ok (.sipush 248, 3) := by decide +kernel
theorem dX8_enters_80 : decode cX8_enters 80 = .ok (.iload 5, 2) := by decide +kernel
theorem dX8_enters_82 : decode cX8_enters 82 = .ok (.iastore, 1) := by decide +kernel
theorem dX8_enters_83 : decode cX8_enters 83 = .ok (.aload_n 0, 1) := by decide +kernel
theorem dX8_enters_84 : decode cX8_enters 84 = .ok (.getfield 7, 3) := by decide +kernel
theorem dX8_enters_87 : decode cX8_enters 87 = .ok (.sipush 249, 3) := by decide +kernel
theorem dX8_enters_90 : decode cX8_enters 90 = .ok (.iload 6, 2) := by decide +kernel
theorem dX8_enters_92 : decode cX8_enters 92 = .ok (.iastore, 1) := by decide +kernel
theorem dX8_enters_93 : decode cX8_enters 93 = .ok (.aload_n 0, 1) := by decide +kernel
theorem dX8_enters_94 : decode cX8_enters 94 = .ok (.getfield 7, 3) := by decide +kernel
theorem dX8_enters_97 : decode cX8_enters 97 = .ok (.bipush 6, 2) := by decide +kernel
theorem dX8_enters_99 : decode cX8_enters 99 = .ok (.aload_n 0, 1) := by decide +kernel
theorem dX8_enters_100 : decode cX8_enters 100 = .ok (.getfield 7, 3) := by decide +kernel
theorem dX8_enters_103 : decode cX8_enters 103 = .ok (.bipush 6, 2) := by decide +kernel
theorem dX8_enters_105 : decode cX8_enters 105 = .ok (.iaload, 1) := by decide +kernel
theorem dX8_enters_106 : decode cX8_enters 106 = .ok (.bipush 12, 2) := by decide +kernel
theorem dX8_enters_108 : decode cX8_enters 108 = .ok (.if_icmp .ge 15, 3) := by decide +kernel
theorem dX8_enters_111 : decode cX8_enters 111 = .ok (.aload_n 0, 1) := by decide +kernel
theorem dX8_enters_112 : decode cX8_enters 112 = .ok (.getfield 7, 3) := by decide +kernel
theorem dX8_enters_115 : decode cX8_enters 115 = .ok (.bipush 6, 2) := by decide +kernel
theorem dX8_enters_117 : decode cX8_enters 117 = .ok (.iaload, 1) := by decide +kernel
theorem dX8_enters_118 : decode cX8_enters 118 = .ok (.iconst 1, 1) := by decide +kernel
theorem dX8_enters_119 : decode cX8_enters 119 = .ok (.iadd, 1) := by decide +kernel
theorem dX8_enters_120 : decode cX8_enters 120 = .ok (.goto 5, 3) := by decide +kernel
theorem dX8_enters_123 : decode cX8_enters 123 = .ok (.bipush 12, 2) := by decide +kernel
theorem dX8_enters_125 : decode cX8_enters 125 = .ok (.iastore, 1) := by decide +kernel
theorem dX8_enters_126 : decode cX8_enters 126 = .ok (.return_, 1) := by decide +kernel
theorem dX8_goes_0 : decode cX8_goes 0 = .ok (.aload_n 0, 1) := by decide +kernel
theorem dX8_goes_1 : decode cX8_goes 1 = .ok (.getfield 7, 3) := by decide +kernel
theorem dX8_goes_4 : decode cX8_goes 4 = .ok (.iload_n 1, 1) := by decide +kernel
theorem dX8_goes_5 : decode cX8_goes 5 = .ok (.iload_n 2, 1) := by decide +kernel
theorem dX8_goes_6 : decode cX8_goes 6 = .ok (.iconst 1, 1) := by decide +kernel
theorem dX8_goes_7 : decode cX8_goes 7 = .ok (.invokestatic 40, 3) := by decide +kernel
theorem dX8_goes_10 : decode cX8_goes 10 = .ok (.iaload, 1) := by decide +kernel
theorem dX8_goes_11 : decode cX8_goes 11 = .ok (.iload_n 3, 1) := by decide +kernel
theorem dX8_goes_12 : decode cX8_goes 12 = .ok (.imul, 1) := by decide +kernel
theorem dX8_goes_13 : decode cX8_goes 13 = .ok (.aload_n 0, 1) := by decide +kernel
theorem dX8_goes_14 : decode cX8_goes 14 = .ok (.iload_n 1, 1) := by decide +kernel
theorem dX8_goes_15 : decode cX8_goes 15 = .ok (.iload_n 2, 1) := by decide +kernel
theorem dX8_goes_16 : decode cX8_goes 16 = .ok (.invokevirtual 44, 3) := by decide +kernel
theorem dX8_goes_19 : decode cX8_goes 19 = .ok (.idiv, 1) := by decide +kernel
theorem dX8_goes_20 : decode cX8_goes 20 = .ok (.istore 4, 2) := by decide +kernel
theorem dX8_goes_22 : decode cX8_goes 22 = .ok (.aload_n 0, 1) := by decide +kernel
theorem dX8_goes_23 : decode cX8_goes 23 = .ok (.getfield 7, 3) := by decide +kernel
theorem dX8_goes_26 : decode cX8_goes 26 = .ok (.iload_n 1, 1) := by decide +kernel
theorem dX8_goes_27 : decode cX8_goes 27 = .ok (.iload_n 2, 1) := by decide +kernel
theorem dX8_goes_28 : decode cX8_goes 28 = .ok (.iconst 1, 1) := by decide +kernel
theorem dX8_goes_29 : decode cX8_goes 29 = .ok (.invokestatic 40, 3) := by decide +kernel
theorem dX8_goes_32 : decode cX8_goes 32 = .ok (.dup2, 1) := by decide +kernel
theorem dX8_goes_33 : decode cX8_goes 33 = .ok (.iaload, 1) := by decide +kernel
theorem dX8_goes_34 : decode cX8_goes 34 = .ok (.iload 4, 2) := by decide +kernel
theorem dX8_goes_36 : decode cX8_goes 36 = .ok (.isub, 1) := by decide +kernel
theorem dX8_goes_37 : decode cX8_goes 37 = .ok (.iastore, 1) := by decide +kernel
theorem dX8_goes_38 : decode cX8_goes 38 = .ok (.aload_n 0, 1) := by decide +kernel
theorem dX8_goes_39 : decode cX8_goes 39 = .ok (.getfield 7, 3) := by decide +kernel
theorem dX8_goes_42 : decode cX8_goes 42 = .ok (.iload_n 1, 1) := by decide +kernel
theorem dX8_goes_43 : decode cX8_goes 43 = .ok (.iload_n 2, 1) := by decide +kernel
theorem dX8_goes_44 : decode cX8_goes 44 = .ok (.iconst 0, 1) := by decide +kernel
theorem dX8_goes_45 : decode cX8_goes 45 = .ok (.invokestatic 40, 3) := by decide +kernel
theorem dX8_goes_48 : decode cX8_goes 48 = .ok (.dup2, 1) := by decide +kernel
theorem dX8_goes_49 : decode cX8_goes 49 = .ok (.iaload, 1) := by decide +kernel
theorem dX8_goes_50 : decode cX8_goes 50 = .ok (.iload_n 3, 1) := by decide +kernel
theorem dX8_goes_51 : decode cX8_goes 51 = .ok (.isub, 1) := by decide +kernel
theorem dX8_goes_52 : decode cX8_goes 52 = .ok (.iastore, 1) := by decide +kernel
theorem dX8_goes_53 : decode cX8_goes 53 = .ok (.iload 4, 2) := by decide +kernel
theorem dX8_goes_55 : decode cX8_goes 55 = .ok (.ireturn, 1) := by decide +kernel
theorem dX8_wouldCut_0 : decode cX8_wouldCut 0 = .ok (.iload 4, 2) := by decide +kernel
theorem dX8_wouldCut_2 : decode cX8_wouldCut 2 = .ok (.iload_n 3, 1) := by decide +kernel
theorem dX8_wouldCut_3 : decode cX8_wouldCut 3 = .ok (.if_icmp .le 24, 3) := by decide +kernel
theorem dX8_wouldCut_6 : decode cX8_wouldCut 6 = .ok (.aload_n 0, 1) := by decide +kernel
theorem dX8_wouldCut_7 : decode cX8_wouldCut 7 = .ok (.iload_n 1, 1) := by decide +kernel
theorem dX8_wouldCut_8 : decode cX8_wouldCut 8 = .ok (.iload_n 2, 1) := by decide +kernel
theorem dX8_wouldCut_9 : decode cX8_wouldCut 9 = .ok (.invokevirtual 44, 3) := by decide +kernel
theorem dX8_wouldCut_12 : decode cX8_wouldCut 12 = .ok (.aload_n 0, 1) := by decide +kernel
theorem dX8_wouldCut_13 : decode cX8_wouldCut 13 = .ok (.iload_n 1, 1) := by decide +kernel
theorem dX8_wouldCut_14 : decode cX8_wouldCut 14 = .ok (.iload_n 2, 1) := by decide +kernel
theorem dX8_wouldCut_15 : decode cX8_wouldCut 15 = .ok (.invokevirtual 44, 3) := by decide +kernel
theorem dX8_wouldCut_18 : decode cX8_wouldCut 18 = .ok (.iload_n 3, 1) := by decide +kernel
theorem dX8_wouldCut_19 : decode cX8_wouldCut 19 = .ok (.imul, 1) := by decide +kernel
theorem dX8_wouldCut_20 : decode cX8_wouldCut 20 = .ok (.iload 4, 2) := by decide +kernel
theorem dX8_wouldCut_22 : decode cX8_wouldCut 22 = .ok (.idiv, 1) := by decide +kernel
theorem dX8_wouldCut_23 : decode cX8_wouldCut 23 = .ok (.isub, 1) := by decide +kernel
theorem dX8_wouldCut_24 : decode cX8_wouldCut 24 = .ok (.goto 4, 3) := by decide +kernel
theorem dX8_wouldCut_27 : decode cX8_wouldCut 27 = .ok (.iconst 0, 1) := by decide +kernel
theorem dX8_wouldCut_28 : decode cX8_wouldCut 28 = .ok (.ireturn, 1) := by decide +kernel
theorem dX8_bottle_0 : decode cX8_bottle 0 = .ok (.aload_n 0, 1) := by decide +kernel
theorem dX8_bottle_1 : decode cX8_bottle 1 = .ok (.iload_n 1, 1) := by decide +kernel
theorem dX8_bottle_2 : decode cX8_bottle 2 = .ok (.invokevirtual 81, 3) := by decide +kernel
theorem dX8_bottle_5 : decode cX8_bottle 5 = .ok (.ifCond .ne 6, 3) := by decide +kernel
theorem dX8_bottle_8 : decode cX8_bottle 8 = .ok (.ldc 76, 2) := by decide +kernel
theorem dX8_bottle_10 : decode cX8_bottle 10 = .ok (.ireturn, 1) := by decide +kernel
theorem dX8_bottle_11 : decode cX8_bottle 11 = .ok (.aload_n 0, 1) := by decide +kernel
theorem dX8_bottle_12 : decode cX8_bottle 12 = .ok (.iload_n 1, 1) := by decide +kernel
theorem dX8_bottle_13 : decode cX8_bottle 13 = .ok (.invokevirtual 85, 3) := by decide +kernel
theorem dX8_bottle_16 : decode cX8_bottle 16 = .ok (.ifCond .ne 6, 3) := by decide +kernel
theorem dX8_bottle_19 : decode cX8_bottle 19 = .ok (.ldc 91, 2) := by decide +kernel
theorem dX8_bottle_21 : decode cX8_bottle 21 = .ok (.ireturn, 1) := by decide +kernel
theorem dX8_bottle_22 : decode cX8_bottle 22 = .ok (.aload_n 0, 1) := by decide +kernel
theorem dX8_bottle_23 : decode cX8_bottle 23 = .ok (.invokevirtual 78, 3) := by decide +kernel
theorem dX8_bottle_26 : decode cX8_bottle 26 = .ok (.aload_n 0, 1) := by decide +kernel
theorem dX8_bottle_27 : decode cX8_bottle 27 = .ok (.iload_n 1, 1) := by decide +kernel
theorem dX8_bottle_28 : decode cX8_bottle 28 = .ok (.invokevirtual 62, 3) := by decide +kernel
theorem dX8_bottle_31 : decode cX8_bottle 31 = .ok (.aload_n 0, 1) := by decide +kernel
theorem dX8_bottle_32 : decode cX8_bottle 32 = .ok (.invokevirtual 58, 3) := by decide +kernel
theorem dX8_bottle_35 : decode cX8_bottle 35 = .ok (.bipush 90, 2) := by decide +kernel
theorem dX8_bottle_37 : decode cX8_bottle 37 = .ok (.idiv, 1) := by decide +kernel
theorem dX8_bottle_38 : decode cX8_bottle 38 = .ok (.istore_n 2, 1) := by decide +kernel
theorem dX8_bottle_39 : decode cX8_bottle 39 = .ok (.aload_n 0, 1) := by decide +kernel
theorem dX8_bottle_40 : decode cX8_bottle 40 = .ok (.iload_n 1, 1) := by decide +kernel
theorem dX8_bottle_41 : decode cX8_bottle 41 = .ok (.invokevirtual 104, 3) := by decide +kernel
theorem dX8_bottle_44 : decode cX8_bottle 44 = .ok (.istore_n 3, 1) := by decide +kernel
theorem dX8_bottle_45 : decode cX8_bottle 45 = .ok (.iconst 0, 1) := by decide +kernel
theorem dX8_bottle_46 : decode cX8_bottle 46 = .ok (.istore 4, 2) := by decide +kernel
theorem dX8_bottle_48 : decode cX8_bottle 48 = .ok (.iconst 0, 1) := by decide +kernel
theorem dX8_bottle_49 : decode cX8_bottle 49 = .ok (.istore 5, 2) := by decide +kernel
theorem dX8_bottle_51 : decode cX8_bottle 51 = .ok (.iload 5, 2) := by decide +kernel
theorem dX8_bottle_53 : decode cX8_bottle 53 = .ok (.aload_n 0, 1) := by decide +kernel
theorem dX8_bottle_54 : decode cX8_bottle 54 = .ok (.getfield 7, 3) := by decide +kernel
theorem dX8_bottle_57 : decode cX8_bottle 57 = .ok (.iconst 1, 1) := by decide +kernel
theorem dX8_bottle_58 : decode cX8_bottle 58 = .ok (.iaload, 1) := by decide +kernel
theorem dX8_bottle_59 : decode cX8_bottle 59 = .ok (.if_icmp .ge 86, 3) := by decide +kernel
theorem dX8_bottle_62 : decode cX8_bottle 62 = .ok (.aload_n 0, 1) := by decide +kernel
theorem dX8_bottle_63 : decode cX8_bottle 63 = .ok (.iload 5, 2) := by decide +kernel
theorem dX8_bottle_65 : decode cX8_bottle 65 = .ok (.iload_n 1, 1) := by decide +kernel
theorem dX8_bottle_66 : decode cX8_bottle 66 = .ok (.iload_n 2, 1) := by decide +kernel
theorem dX8_bottle_67 : decode cX8_bottle 67 = .ok (.iload_n 3, 1) := by decide +kernel
theorem dX8_bottle_68 : decode cX8_bottle 68 = .ok (.invokevirtual 107, 3) := by decide +kernel
theorem dX8_bottle_71 : decode cX8_bottle 71 = .ok (.istore 6, 2) := by decide +kernel
theorem dX8_bottle_73 : decode cX8_bottle 73 = .ok (.iload 6, 2) := by decide +kernel
theorem dX8_bottle_75 : decode cX8_bottle 75 = .ok (.ifCond .le 64, 3) := by decide +kernel
theorem dX8_bottle_78 : decode cX8_bottle 78 = .ok (.aload_n 0, 1) := by decide +kernel
theorem dX8_bottle_79 : decode cX8_bottle 79 = .ok (.iload 5, 2) := by decide +kernel
theorem dX8_bottle_81 : decode cX8_bottle 81 = .ok (.iload_n 1, 1) := by decide +kernel
theorem dX8_bottle_82 : decode cX8_bottle 82 = .ok (.iload 6, 2) := by decide +kernel
theorem dX8_bottle_84 : decode cX8_bottle 84 = .ok (.invokevirtual 111, 3) := by decide +kernel
theorem dX8_bottle_87 : decode cX8_bottle 87 = .ok (.istore 7, 2) := by decide +kernel
theorem dX8_bottle_89 : decode cX8_bottle 89 = .ok (.aload_n 0, 1) := by decide +kernel
theorem dX8_bottle_90 : decode cX8_bottle 90 = .ok (.getfield 7, 3) := by decide +kernel
theorem dX8_bottle_93 : decode cX8_bottle 93 = .ok (.sipush 129, 3) := by decide +kernel
theorem dX8_bottle_96 : decode cX8_bottle 96 = .ok (.iload 5, 2) := by decide +kernel
theorem dX8_bottle_98 : decode cX8_bottle 98 = .ok (.iadd, 1) := by decide +kernel
theorem dX8_bottle_99 : decode cX8_bottle 99 = .ok (.dup2, 1) := by decide +kernel
theorem dX8_bottle_100 : decode cX8_bottle 100 = .ok (.iaload, 1) := by decide +kernel
theorem dX8_bottle_101 : decode cX8_bottle 101 = .ok (.iload 7, 2) := by decide +kernel
theorem dX8_bottle_103 : decode cX8_bottle 103 = .ok (.iadd, 1) := by decide +kernel
theorem dX8_bottle_104 : decode cX8_bottle 104 = .ok (.iastore, 1) := by decide +kernel
theorem dX8_bottle_105 : decode cX8_bottle 105 = .ok (.aload_n 0, 1) := by decide +kernel
theorem dX8_bottle_106 : decode cX8_bottle 106 = .ok (.getfield 7, 3) := by decide +kernel
theorem dX8_bottle_109 : decode cX8_bottle 109 = .ok (.sipush 135, 3) := by decide +kernel
theorem dX8_bottle_112 : decode cX8_bottle 112 = .ok (.dup2, 1) := by decide +kernel
theorem dX8_bottle_113 : decode cX8_bottle 113 = .ok (.iaload, 1) := by decide +kernel
theorem dX8_bottle_114 : decode cX8_bottle 114 = .ok (.iload 7, 2) := by decide +kernel
theorem dX8_bottle_116 : decode cX8_bottle 116 = .ok (.isub, 1) := by decide +kernel
theorem dX8_bottle_117 : decode cX8_bottle 117 = .ok (.iastore, 1) := by decide +kernel
theorem dX8_bottle_118 : decode cX8_bottle 118 = .ok (.aload_n 0, 1) := by decide +kernel
theorem dX8_bottle_119 : decode cX8_bottle 119 = .ok (.iconst 2, 1) := by decide +kernel
theorem dX8_bottle_120 : decode cX8_bottle 120 = .ok (.iload_n 1, 1) := by decide +kernel
theorem dX8_bottle_121 : decode cX8_bottle 121 = .ok (.iload 5, 2) := by decide +kernel
theorem dX8_bottle_123 : decode cX8_bottle 123 = .ok (.iload 6, 2) := by decide +kernel
theorem dX8_bottle_125 : decode cX8_bottle 125 = .ok (.iload 7, 2) := by decide +kernel
theorem dX8_bottle_127 : decode cX8_bottle 127 = .ok (.ldc 57, 2) := by decide +kernel
theorem dX8_bottle_129 : decode cX8_bottle 129 = .ok (.invokevirtual 114, 3) := by decide +kernel
theorem dX8_bottle_132 : decode cX8_bottle 132 = .ok (.iload 4, 2) := by decide +kernel
theorem dX8_bottle_134 : decode cX8_bottle 134 = .ok (.iload 6, 2) := by decide +kernel
theorem dX8_bottle_136 : decode cX8_bottle 136 = .ok (.iadd, 1) := by decide +kernel
theorem dX8_bottle_137 : decode cX8_bottle 137 = .ok (.istore 4, 2) := by decide +kernel
theorem dX8_bottle_139 : decode cX8_bottle 139 = .ok (.iinc 5 1, 3) := by decide +kernel
theorem dX8_bottle_142 : decode cX8_bottle 142 = .ok (.goto (-91), 3) := by decide +kernel
theorem dX8_bottle_145 : decode cX8_bottle 145 = .ok (.aload_n 0, 1) := by decide +kernel
theorem dX8_bottle_146 : decode cX8_bottle 146 = .ok (.getfield 7, 3) := by decide +kernel
theorem dX8_bottle_149 : decode cX8_bottle 149 = .ok (.bipush 9, 2) := by decide +kernel
theorem dX8_bottle_151 : decode cX8_bottle 151 = .ok (.bipush 20, 2) := by decide +kernel
theorem dX8_bottle_153 : decode cX8_bottle 153 = .ok (.iload_n 1, 1) := by decide +kernel
theorem dX8_bottle_154 : decode cX8_bottle 154 = .ok (.imul, 1) := by decide +kernel
theorem dX8_bottle_155 : decode cX8_bottle 155 = .ok (.iadd, 1) := by decide +kernel
theorem dX8_bottle_156 : decode cX8_bottle 156 = .ok (.iconst 0, 1) := by decide +kernel
theorem dX8_bottle_157 : decode cX8_bottle 157 = .ok (.iadd, 1) := by decide +kernel
theorem dX8_bottle_158 : decode cX8_bottle 158 = .ok (.iconst 0, 1) := by decide +kernel
theorem dX8_bottle_159 : decode cX8_bottle 159 = .ok (.iastore, 1) := by decide +kernel
theorem dX8_bottle_160 : decode cX8_bottle 160 = .ok (.aload_n 0, 1) := by decide +kernel
theorem dX8_bottle_161 : decode cX8_bottle 161 = .ok (.getfield 7, 3) := by decide +kernel
theorem dX8_bottle_164 : decode cX8_bottle 164 = .ok (.bipush 9, 2) := by decide +kernel
theorem dX8_bottle_166 : decode cX8_bottle 166 = .ok (.bipush 20, 2) := by decide +kernel
theorem dX8_bottle_168 : decode cX8_bottle 168 = .ok (.iload_n 1, 1) := by decide +kernel
theorem dX8_bottle_169 : decode cX8_bottle 169 = .ok (.imul, 1) := by decide +kernel
theorem dX8_bottle_170 : decode cX8_bottle 170 = .ok (.iadd, 1) := by decide +kernel
theorem dX8_bottle_171 : decode cX8_bottle 171 = .ok (.iconst 4, 1) := by decide +kernel
theorem dX8_bottle_172 : decode cX8_bottle 172 = .ok (.iadd, 1) := by decide +kernel
theorem dX8_bottle_173 : decode cX8_bottle 173 = .ok (.iconst 1, 1) := by decide +kernel
theorem dX8_bottle_174 : decode cX8_bottle 174 = .ok (.iastore, 1) := by decide +kernel
theorem dX8_bottle_175 : decode cX8_bottle 175 = .ok (.aload_n 0, 1) := by decide +kernel
theorem dX8_bottle_176 : decode cX8_bottle 176 = .ok (.getfield 7, 3) := by decide +kernel
theorem dX8_bottle_179 : decode cX8_bottle 179 = .ok (.bipush 9, 2) := by decide +kernel
theorem dX8_bottle_181 : decode cX8_bottle 181 = .ok (.bipush 20, 2) := by decide +kernel
theorem dX8_bottle_183 : decode cX8_bottle 183 = .ok (.iload_n 1, 1) := by decide +kernel
theorem dX8_bottle_184 : decode cX8_bottle 184 = .ok (.imul, 1) := by decide +kernel
theorem dX8_bottle_185 : decode cX8_bottle 185 = .ok (.iadd, 1) := by decide +kernel
theorem dX8_bottle_186 : decode cX8_bottle 186 = .ok (.iconst 5, 1) := by decide +kernel
theorem dX8_bottle_187 : decode cX8_bottle 187 = .ok (.iadd, 1) := by decide +kernel
theorem dX8_bottle_188 : decode cX8_bottle 188 = .ok (.iload_n 2, 1) := by decide +kernel
theorem dX8_bottle_189 : decode cX8_bottle 189 = .ok (.iastore, 1) := by decide +kernel
theorem dX8_bottle_190 : decode cX8_bottle 190 = .ok (.aload_n 0, 1) := by decide +kernel
theorem dX8_bottle_191 : decode cX8_bottle 191 = .ok (.getfield 7, 3) := by decide +kernel
theorem dX8_bottle_194 : decode cX8_bottle 194 = .ok (.bipush 9, 2) := by decide +kernel
theorem dX8_bottle_196 : decode cX8_bottle 196 = .ok (.bipush 20, 2) := by decide +kernel
theorem dX8_bottle_198 : decode cX8_bottle 198 = .ok (.iload_n 1, 1) := by decide +kernel
theorem dX8_bottle_199 : decode cX8_bottle 199 = .ok (.imul, 1) := by decide +kernel
theorem dX8_bottle_200 : decode cX8_bottle 200 = .ok (.iadd, 1) := by decide +kernel
theorem dX8_bottle_201 : decode cX8_bottle 201 = .ok (.bipush 6, 2) := by decide +kernel
theorem dX8_bottle_203 : decode cX8_bottle 203 = .ok (.iadd, 1) := by decide +kernel
theorem dX8_bottle_204 : decode cX8_bottle 204 = .ok (.iload_n 2, 1) := by decide +kernel
theorem dX8_bottle_205 : decode cX8_bottle 205 = .ok (.iastore, 1) := by decide +kernel
theorem dX8_bottle_206 : decode cX8_bottle 206 = .ok (.aload_n 0, 1) := by decide +kernel
theorem dX8_bottle_207 : decode cX8_bottle 207 = .ok (.getfield 7, 3) := by decide +kernel
theorem dX8_bottle_210 : decode cX8_bottle 210 = .ok (.iconst 5, 1) := by decide +kernel
theorem dX8_bottle_211 : decode cX8_bottle 211 = .ok (.dup2, 1) := by decide +kernel
theorem dX8_bottle_212 : decode cX8_bottle 212 = .ok (.iaload, 1) := by decide +kernel
theorem dX8_bottle_213 : decode cX8_bottle 213 = .ok (.iload 4, 2) := by decide +kernel
theorem dX8_bottle_215 : decode cX8_bottle 215 = .ok (.iadd, 1) := by decide +kernel
theorem dX8_bottle_216 : decode cX8_bottle 216 = .ok (.iastore, 1) := by decide +kernel
theorem dX8_bottle_217 : decode cX8_bottle 217 = .ok (.iload 4, 2) := by decide +kernel
theorem dX8_bottle_219 : decode cX8_bottle 219 = .ok (.ireturn, 1) := by decide +kernel
theorem dX8_buyer_0 : decode cX8_buyer 0 = .ok (.aload_n 0, 1) := by decide +kernel
theorem dX8_buyer_1 : decode cX8_buyer 1 = .ok (.getfield 7, 3) := by decide +kernel
theorem dX8_buyer_4 : decode cX8_buyer 4 = .ok (.iconst 1, 1) := by decide +kernel
theorem dX8_buyer_5 : decode cX8_buyer 5 = .ok (.iaload, 1) := by decide +kernel
theorem dX8_buyer_6 : decode cX8_buyer 6 = .ok (.bipush 6, 2) := by decide +kernel
theorem dX8_buyer_8 : decode cX8_buyer 8 = .ok (.if_icmp .ne 6, 3) := by decide +kernel
theorem dX8_buyer_11 : decode cX8_buyer 11 = .ok (.ldc 77, 2) := by decide +kernel
theorem dX8_buyer_13 : decode cX8_buyer 13 = .ok (.ireturn, 1) := by decide +kernel
theorem dX8_buyer_14 : decode cX8_buyer 14 = .ok (.aload_n 0, 1) := by decide +kernel
theorem dX8_buyer_15 : decode cX8_buyer 15 = .ok (.invokevirtual 78, 3) := by decide +kernel
theorem dX8_buyer_18 : decode cX8_buyer 18 = .ok (.aload_n 0, 1) := by decide +kernel
theorem dX8_buyer_19 : decode cX8_buyer 19 = .ok (.getfield 7, 3) := by decide +kernel
theorem dX8_buyer_22 : decode cX8_buyer 22 = .ok (.iconst 1, 1) := by decide +kernel
theorem dX8_buyer_23 : decode cX8_buyer 23 = .ok (.dup2, 1) := by decide +kernel
theorem dX8_buyer_24 : decode cX8_buyer 24 = .ok (.iaload, 1) := by decide +kernel
theorem dX8_buyer_25 : decode cX8_buyer 25 = .ok (.iconst 1, 1) := by decide +kernel
theorem dX8_buyer_26 : decode cX8_buyer 26 = .ok (.iadd, 1) := by decide +kernel
theorem dX8_buyer_27 : decode cX8_buyer 27 = .ok (.iastore, 1) := by decide +kernel
theorem dX8_buyer_28 : decode cX8_buyer 28 = .ok (.aload_n 0, 1) := by decide +kernel
theorem dX8_buyer_29 : decode cX8_buyer 29 = .ok (.getfield 7, 3) := by decide +kernel
theorem dX8_buyer_32 : decode cX8_buyer 32 = .ok (.iconst 1, 1) := by decide +kernel
theorem dX8_buyer_33 : decode cX8_buyer 33 = .ok (.iaload, 1) := by decide +kernel
theorem dX8_buyer_34 : decode cX8_buyer 34 = .ok (.iconst 1, 1) := by decide +kernel
theorem dX8_buyer_35 : decode cX8_buyer 35 = .ok (.isub, 1) := by decide +kernel
theorem dX8_buyer_36 : decode cX8_buyer 36 = .ok (.ireturn, 1) := by decide +kernel
theorem dX8_areCases_0 : decode cX8_areCases 0 = .ok (.iload_n 0, 1) := by decide +kernel
theorem dX8_areCases_1 : decode cX8_areCases 1 = .ok (.iconst 1, 1) := by decide +kernel
theorem dX8_areCases_2 : decode cX8_areCases 2 = .ok (.sipush 999, 3) := by decide +kernel
theorem dX8_areCases_5 : decode cX8_areCases 5 = .ok (.invokestatic 72, 3) := by decide +kernel
theorem dX8_areCases_8 : decode cX8_areCases 8 = .ok (.ifCond .eq 18, 3) := by decide +kernel
theorem dX8_areCases_11 : decode cX8_areCases 11 = .ok (.iload_n 1, 1) := by decide +kernel
theorem dX8_areCases_12 : decode cX8_areCases 12 = .ok (.iconst 0, 1) := by decide +kernel
theorem dX8_areCases_13 : decode cX8_areCases 13 = .ok (.sipush 999, 3) := by decide +kernel
theorem dX8_areCases_16 : decode cX8_areCases 16 = .ok (.invokestatic 72, 3) := by decide +kernel
theorem dX8_areCases_19 : decode cX8_areCases 19 = .ok (.ifCond .eq 7, 3) := by decide +kernel
theorem dX8_areCases_22 : decode cX8_areCases 22 = .ok (.iconst 1, 1) := by decide +kernel
theorem dX8_areCases_23 : decode cX8_areCases 23 = .ok (.goto 4, 3) := by decide +kernel
theorem dX8_areCases_26 : decode cX8_areCases 26 = .ok (.iconst 0, 1) := by decide +kernel
theorem dX8_areCases_27 : decode cX8_areCases 27 = .ok (.ireturn, 1) := by decide +kernel
theorem dX8_comes_0 : decode cX8_comes 0 = .ok (.aload_n 0, 1) := by decide +kernel
theorem dX8_comes_1 : decode cX8_comes 1 = .ok (.getfield 7, 3) := by decide +kernel
theorem dX8_comes_4 : decode cX8_comes 4 = .ok (.iload_n 1, 1) := by decide +kernel
theorem dX8_comes_5 : decode cX8_comes 5 = .ok (.iload_n 2, 1) := by decide +kernel
theorem dX8_comes_6 : decode cX8_comes 6 = .ok (.iconst 0, 1) := by decide +kernel
theorem dX8_comes_7 : decode cX8_comes 7 = .ok (.invokestatic 40, 3) := by decide +kernel
theorem dX8_comes_10 : decode cX8_comes 10 = .ok (.dup2, 1) := by decide +kernel
theorem dX8_comes_11 : decode cX8_comes 11 = .ok (.iaload, 1) := by decide +kernel
theorem dX8_comes_12 : decode cX8_comes 12 = .ok (.iload_n 3, 1) := by decide +kernel
theorem dX8_comes_13 : decode cX8_comes 13 = .ok (.iadd, 1) := by decide +kernel
theorem dX8_comes_14 : decode cX8_comes 14 = .ok (.iastore, 1) := by decide +kernel
theorem dX8_comes_15 : decode cX8_comes 15 = .ok (.aload_n 0, 1) := by decide +kernel
theorem dX8_comes_16 : decode cX8_comes 16 = .ok (.getfield 7, 3) := by decide +kernel
theorem dX8_comes_19 : decode cX8_comes 19 = .ok (.iload_n 1, 1) := by decide +kernel
theorem dX8_comes_20 : decode cX8_comes 20 = .ok (.iload_n 2, 1) := by decide +kernel
theorem dX8_comes_21 : decode cX8_comes 21 = .ok (.iconst 1, 1) := by decide +kernel
theorem dX8_comes_22 : decode cX8_comes 22 = .ok (.invokestatic 40, 3) := by decide +kernel
theorem dX8_comes_25 : decode cX8_comes 25 = .ok (.dup2, 1) := by decide +kernel
theorem dX8_comes_26 : decode cX8_comes 26 = .ok (.iaload, 1) := by decide +kernel
theorem dX8_comes_27 : decode cX8_comes 27 = .ok (.iload_n 3, 1) := by decide +kernel
theorem dX8_comes_28 : decode cX8_comes 28 = .ok (.iload 4, 2) := by decide +kernel
theorem dX8_comes_30 : decode cX8_comes 30 = .ok (.imul, 1) := by decide +kernel
theorem dX8_comes_31 : decode cX8_comes 31 = .ok (.iadd, 1) := by decide +kernel
theorem dX8_comes_32 : decode cX8_comes 32 = .ok (.iastore, 1) := by decide +kernel
theorem dX8_comes_33 : decode cX8_comes 33 = .ok (.aload_n 0, 1) := by decide +kernel
theorem dX8_comes_34 : decode cX8_comes 34 = .ok (.getfield 7, 3) := by decide +kernel
theorem dX8_comes_37 : decode cX8_comes 37 = .ok (.sipush 129, 3) := by decide +kernel
theorem dX8_comes_40 : decode cX8_comes 40 = .ok (.iload_n 1, 1) := by decide +kernel
theorem dX8_comes_41 : decode cX8_comes 41 = .ok (.iadd, 1) := by decide +kernel
theorem dX8_comes_42 : decode cX8_comes 42 = .ok (.dup2, 1) := by decide +kernel
theorem dX8_comes_43 : decode cX8_comes 43 = .ok (.iaload, 1) := by decide +kernel
theorem dX8_comes_44 : decode cX8_comes 44 = .ok (.iload_n 3, 1) := by decide +kernel
theorem dX8_comes_45 : decode cX8_comes 45 = .ok (.iload 4, 2) := by decide +kernel
theorem dX8_comes_47 : decode cX8_comes 47 = .ok (.imul, 1) := by decide +kernel
theorem dX8_comes_48 : decode cX8_comes 48 = .ok (.isub, 1) := by decide +kernel
theorem dX8_comes_49 : decode cX8_comes 49 = .ok (.iastore, 1) := by decide +kernel
theorem dX8_comes_50 : decode cX8_comes 50 = .ok (.aload_n 0, 1) := by decide +kernel
theorem dX8_comes_51 : decode cX8_comes 51 = .ok (.getfield 7, 3) := by decide +kernel
theorem dX8_comes_54 : decode cX8_comes 54 = .ok (.sipush 129, 3) := by decide +kernel
theorem dX8_comes_57 : decode cX8_comes 57 = .ok (.iload 5, 2) := by decide +kernel
theorem dX8_comes_59 : decode cX8_comes 59 = .ok (.iadd, 1) := by decide +kernel
theorem dX8_comes_60 : decode cX8_comes 60 = .ok (.dup2, 1) := by decide +kernel
theorem dX8_comes_61 : decode cX8_comes 61 = .ok (.iaload, 1) := by decide +kernel
theorem dX8_comes_62 : decode cX8_comes 62 = .ok (.iload_n 3, 1) := by decide +kernel
theorem dX8_comes_63 : decode cX8_comes 63 = .ok (.iload 4, 2) := by decide +kernel
theorem dX8_comes_65 : decode cX8_comes 65 = .ok (.imul, 1) := by decide +kernel
theorem dX8_comes_66 : decode cX8_comes 66 = .ok (.iadd, 1) := by decide +kernel
theorem dX8_comes_67 : decode cX8_comes 67 = .ok (.iastore, 1) := by decide +kernel
theorem dX8_comes_68 : decode cX8_comes 68 = .ok (.return_, 1) := by decide +kernel
theorem dX8_sell_0 : decode cX8_sell 0 = .ok (.aload_n 0, 1) := by decide +kernel
theorem dX8_sell_1 : decode cX8_sell 1 = .ok (.iload_n 1, 1) := by decide +kernel
theorem dX8_sell_2 : decode cX8_sell 2 = .ok (.invokevirtual 81, 3) := by decide +kernel
theorem dX8_sell_5 : decode cX8_sell 5 = .ok (.ifCond .eq 20, 3) := by decide +kernel
theorem dX8_sell_8 : decode cX8_sell 8 = .ok (.aload_n 0, 1) := by decide +kernel
theorem dX8_sell_9 : decode cX8_sell 9 = .ok (.iload_n 2, 1) := by decide +kernel
theorem dX8_sell_10 : decode cX8_sell 10 = .ok (.invokevirtual 118, 3) := by decide +kernel
theorem dX8_sell_13 : decode cX8_sell 13 = .ok (.ifCond .eq 12, 3) := by decide +kernel
theorem dX8_sell_16 : decode cX8_sell 16 = .ok (.iload_n 3, 1) := by decide +kernel
theorem dX8_sell_17 : decode cX8_sell 17 = .ok (.iload 4, 2) := by decide +kernel
theorem dX8_sell_19 : decode cX8_sell 19 = .ok (.invokestatic 121, 3) := by decide +kernel
theorem dX8_sell_22 : decode cX8_sell 22 = .ok (.ifCond .ne 6, 3) := by decide +kernel
theorem dX8_sell_25 : decode cX8_sell 25 = .ok (.ldc 76, 2) := by decide +kernel
theorem dX8_sell_27 : decode cX8_sell 27 = .ok (.ireturn, 1) := by decide +kernel
theorem dX8_sell_28 : decode cX8_sell 28 = .ok (.aload_n 0, 1) := by decide +kernel
theorem dX8_sell_29 : decode cX8_sell 29 = .ok (.iload_n 1, 1) := by decide +kernel
theorem dX8_sell_30 : decode cX8_sell 30 = .ok (.invokevirtual 85, 3) := by decide +kernel
theorem dX8_sell_33 : decode cX8_sell 33 = .ok (.ifCond .eq 18, 3) := by decide +kernel
theorem dX8_sell_36 : decode cX8_sell 36 = .ok (.aload_n 0, 1) := by decide +kernel
theorem dX8_sell_37 : decode cX8_sell 37 = .ok (.iload_n 1, 1) := by decide +kernel
theorem dX8_sell_38 : decode cX8_sell 38 = .ok (.invokevirtual 104, 3) := by decide +kernel
theorem dX8_sell_41 : decode cX8_sell 41 = .ok (.iload_n 3, 1) := by decide +kernel
theorem dX8_sell_42 : decode cX8_sell 42 = .ok (.iadd, 1) := by decide +kernel
theorem dX8_sell_43 : decode cX8_sell 43 = .ok (.aload_n 0, 1) := by decide +kernel
theorem dX8_sell_44 : decode cX8_sell 44 = .ok (.iload_n 1, 1) := by decide +kernel
theorem dX8_sell_45 : decode cX8_sell 45 = .ok (.invokevirtual 125, 3) := by decide +kernel
theorem dX8_sell_48 : decode cX8_sell 48 = .ok (.if_icmp .le 6, 3) := by decide +kernel
theorem dX8_sell_51 : decode cX8_sell 51 = .ok (.ldc 91, 2) := by decide +kernel
theorem dX8_sell_53 : decode cX8_sell 53 = .ok (.ireturn, 1) := by decide +kernel
theorem dX8_sell_54 : decode cX8_sell 54 = .ok (.aload_n 0, 1) := by decide +kernel
theorem dX8_sell_55 : decode cX8_sell 55 = .ok (.invokevirtual 78, 3) := by decide +kernel
theorem dX8_sell_58 : decode cX8_sell 58 = .ok (.aload_n 0, 1) := by decide +kernel
theorem dX8_sell_59 : decode cX8_sell 59 = .ok (.iload_n 2, 1) := by decide +kernel
theorem dX8_sell_60 : decode cX8_sell 60 = .ok (.iload_n 1, 1) := by decide +kernel
theorem dX8_sell_61 : decode cX8_sell 61 = .ok (.iload_n 3, 1) := by decide +kernel
theorem dX8_sell_62 : decode cX8_sell 62 = .ok (.iload 4, 2) := by decide +kernel
theorem dX8_sell_64 : decode cX8_sell 64 = .ok (.bipush 6, 2) := by decide +kernel
theorem dX8_sell_66 : decode cX8_sell 66 = .ok (.invokevirtual 128, 3) := by decide +kernel
theorem dX8_sell_69 : decode cX8_sell 69 = .ok (.aload_n 0, 1) := by decide +kernel
theorem dX8_sell_70 : decode cX8_sell 70 = .ok (.iconst 0, 1) := by decide +kernel
theorem dX8_sell_71 : decode cX8_sell 71 = .ok (.iload_n 1, 1) := by decide +kernel
theorem dX8_sell_72 : decode cX8_sell 72 = .ok (.iload_n 2, 1) := by decide +kernel
theorem dX8_sell_73 : decode cX8_sell 73 = .ok (.iload_n 3, 1) := by decide +kernel
theorem dX8_sell_74 : decode cX8_sell 74 = .ok (.iload 4, 2) := by decide +kernel
theorem dX8_sell_76 : decode cX8_sell 76 = .ok (.ldc 57, 2) := by decide +kernel
theorem dX8_sell_78 : decode cX8_sell 78 = .ok (.invokevirtual 114, 3) := by decide +kernel
theorem dX8_sell_81 : decode cX8_sell 81 = .ok (.aload_n 0, 1) := by decide +kernel
theorem dX8_sell_82 : decode cX8_sell 82 = .ok (.iload_n 2, 1) := by decide +kernel
theorem dX8_sell_83 : decode cX8_sell 83 = .ok (.iload_n 1, 1) := by decide +kernel
theorem dX8_sell_84 : decode cX8_sell 84 = .ok (.invokevirtual 44, 3) := by decide +kernel
theorem dX8_sell_87 : decode cX8_sell 87 = .ok (.ireturn, 1) := by decide +kernel
theorem dX8_trade_0 : decode cX8_trade 0 = .ok (.aload_n 0, 1) := by decide +kernel
theorem dX8_trade_1 : decode cX8_trade 1 = .ok (.iload_n 1, 1) := by decide +kernel
theorem dX8_trade_2 : decode cX8_trade 2 = .ok (.invokevirtual 81, 3) := by decide +kernel
theorem dX8_trade_5 : decode cX8_trade 5 = .ok (.ifCond .eq 34, 3) := by decide +kernel
theorem dX8_trade_8 : decode cX8_trade 8 = .ok (.aload_n 0, 1) := by decide +kernel
theorem dX8_trade_9 : decode cX8_trade 9 = .ok (.iload_n 2, 1) := by decide +kernel
theorem dX8_trade_10 : decode cX8_trade 10 = .ok (.invokevirtual 118, 3) := by decide +kernel
theorem dX8_trade_13 : decode cX8_trade 13 = .ok (.ifCond .eq 26, 3) := by decide +kernel
theorem dX8_trade_16 : decode cX8_trade 16 = .ok (.aload_n 0, 1) := by decide +kernel
theorem dX8_trade_17 : decode cX8_trade 17 = .ok (.iload_n 3, 1) := by decide +kernel
theorem dX8_trade_18 : decode cX8_trade 18 = .ok (.invokevirtual 118, 3) := by decide +kernel
theorem dX8_trade_21 : decode cX8_trade 21 = .ok (.ifCond .eq 18, 3) := by decide +kernel
theorem dX8_trade_24 : decode cX8_trade 24 = .ok (.iload_n 2, 1) := by decide +kernel
theorem dX8_trade_25 : decode cX8_trade 25 = .ok (.iload_n 3, 1) := by decide +kernel
theorem dX8_trade_26 : decode cX8_trade 26 = .ok (.if_icmp .eq 13, 3) := by decide +kernel
theorem dX8_trade_29 : decode cX8_trade 29 = .ok (.iload 4, 2) := by decide +kernel
theorem dX8_trade_31 : decode cX8_trade 31 = .ok (.iload 5, 2) := by decide +kernel
theorem dX8_trade_33 : decode cX8_trade 33 = .ok (.invokestatic 121, 3) := by decide +kernel
theorem dX8_trade_36 : decode cX8_trade 36 = .ok (.ifCond .ne 6, 3) := by decide +kernel
theorem dX8_trade_39 : decode cX8_trade 39 = .ok (.ldc 76, 2) := by decide +kernel
theorem dX8_trade_41 : decode cX8_trade 41 = .ok (.ireturn, 1) := by decide +kernel
theorem dX8_trade_42 : decode cX8_trade 42 = .ok (.aload_n 0, 1) := by decide +kernel
theorem dX8_trade_43 : decode cX8_trade 43 = .ok (.iload_n 2, 1) := by decide +kernel
theorem dX8_trade_44 : decode cX8_trade 44 = .ok (.iload_n 1, 1) := by decide +kernel
theorem dX8_trade_45 : decode cX8_trade 45 = .ok (.invokevirtual 44, 3) := by decide +kernel
theorem dX8_trade_48 : decode cX8_trade 48 = .ok (.iload 4, 2) := by decide +kernel
theorem dX8_trade_50 : decode cX8_trade 50 = .ok (.if_icmp .ge 6, 3) := by decide +kernel
theorem dX8_trade_53 : decode cX8_trade 53 = .ok (.ldc 91, 2) := by decide +kernel
theorem dX8_trade_55 : decode cX8_trade 55 = .ok (.ireturn, 1) := by decide +kernel
theorem dX8_trade_56 : decode cX8_trade 56 = .ok (.aload_n 0, 1) := by decide +kernel
theorem dX8_trade_57 : decode cX8_trade 57 = .ok (.invokevirtual 78, 3) := by decide +kernel
theorem dX8_trade_60 : decode cX8_trade 60 = .ok (.aload_n 0, 1) := by decide +kernel
theorem dX8_trade_61 : decode cX8_trade 61 = .ok (.iload_n 2, 1) := by decide +kernel
theorem dX8_trade_62 : decode cX8_trade 62 = .ok (.iload_n 1, 1) := by decide +kernel
theorem dX8_trade_63 : decode cX8_trade 63 = .ok (.iload 4, 2) := by decide +kernel
theorem dX8_trade_65 : decode cX8_trade 65 = .ok (.invokevirtual 111, 3) := by decide +kernel
theorem dX8_trade_68 : decode cX8_trade 68 = .ok (.istore 6, 2) := by decide +kernel
theorem dX8_trade_70 : decode cX8_trade 70 = .ok (.aload_n 0, 1) := by decide +kernel
theorem dX8_trade_71 : decode cX8_trade 71 = .ok (.iload_n 3, 1) := by decide +kernel
theorem dX8_trade_72 : decode cX8_trade 72 = .ok (.iload_n 1, 1) := by decide +kernel
theorem dX8_trade_73 : decode cX8_trade 73 = .ok (.iload 4, 2) := by decide +kernel
theorem dX8_trade_75 : decode cX8_trade 75 = .ok (.iload 5, 2) := by decide +kernel
theorem dX8_trade_77 : decode cX8_trade 77 = .ok (.iload_n 2, 1) := by decide +kernel
theorem dX8_trade_78 : decode cX8_trade 78 = .ok (.invokevirtual 128, 3) := by decide +kernel
theorem dX8_trade_81 : decode cX8_trade 81 = .ok (.aload_n 0, 1) := by decide +kernel
theorem dX8_trade_82 : decode cX8_trade 82 = .ok (.iconst 1, 1) := by decide +kernel
theorem dX8_trade_83 : decode cX8_trade 83 = .ok (.iload_n 1, 1) := by decide +kernel
theorem dX8_trade_84 : decode cX8_trade 84 = .ok (.iload_n 3, 1) := by decide +kernel
theorem dX8_trade_85 : decode cX8_trade 85 = .ok (.iload 4, 2) := by decide +kernel
theorem dX8_trade_87 : decode cX8_trade 87 = .ok (.iload 5, 2) := by decide +kernel
theorem dX8_trade_89 : decode cX8_trade 89 = .ok (.iload_n 2, 1) := by decide +kernel
theorem dX8_trade_90 : decode cX8_trade 90 = .ok (.invokevirtual 114, 3) := by decide +kernel
theorem dX8_trade_93 : decode cX8_trade 93 = .ok (.iload 6, 2) := by decide +kernel
theorem dX8_trade_95 : decode cX8_trade 95 = .ok (.ifCond .ge 8, 3) := by decide +kernel
theorem dX8_trade_98 : decode cX8_trade 98 = .ok (.ldc 57, 2) := by decide +kernel
theorem dX8_trade_100 : decode cX8_trade 100 = .ok (.goto 9, 3) := by decide +kernel
theorem dX8_trade_103 : decode cX8_trade 103 = .ok (.aload_n 0, 1) := by decide +kernel
theorem dX8_trade_104 : decode cX8_trade 104 = .ok (.iload_n 3, 1) := by decide +kernel
theorem dX8_trade_105 : decode cX8_trade 105 = .ok (.iload_n 1, 1) := by decide +kernel
theorem dX8_trade_106 : decode cX8_trade 106 = .ok (.invokevirtual 44, 3) := by decide +kernel
theorem dX8_trade_109 : decode cX8_trade 109 = .ok (.ireturn, 1) := by decide +kernel
theorem dX8_redeem_0 : decode cX8_redeem 0 = .ok (.aload_n 0, 1) := by decide +kernel
theorem dX8_redeem_1 : decode cX8_redeem 1 = .ok (.iload_n 1, 1) := by decide +kernel
theorem dX8_redeem_2 : decode cX8_redeem 2 = .ok (.invokevirtual 81, 3) := by decide +kernel
theorem dX8_redeem_5 : decode cX8_redeem 5 = .ok (.ifCond .eq 22, 3) := by decide +kernel
theorem dX8_redeem_8 : decode cX8_redeem 8 = .ok (.aload_n 0, 1) := by decide +kernel
theorem dX8_redeem_9 : decode cX8_redeem 9 = .ok (.iload_n 2, 1) := by decide +kernel
theorem dX8_redeem_10 : decode cX8_redeem 10 = .ok (.invokevirtual 118, 3) := by decide +kernel
theorem dX8_redeem_13 : decode cX8_redeem 13 = .ok (.ifCond .eq 14, 3) := by decide +kernel
theorem dX8_redeem_16 : decode cX8_redeem 16 = .ok (.iload_n 3, 1) := by decide +kernel
theorem dX8_redeem_17 : decode cX8_redeem 17 = .ok (.iconst 1, 1) := by decide +kernel
theorem dX8_redeem_18 : decode cX8_redeem 18 = .ok (.sipush 999, 3) := by decide +kernel
theorem dX8_redeem_21 : decode cX8_redeem 21 = .ok (.invokestatic 72, 3) := by decide +kernel
theorem dX8_redeem_24 : decode cX8_redeem 24 = .ok (.ifCond .ne 6, 3) := by decide +kernel
theorem dX8_redeem_27 : decode cX8_redeem 27 = .ok (.ldc 76, 2) := by decide +kernel
theorem dX8_redeem_29 : decode cX8_redeem 29 = .ok (.ireturn, 1) := by decide +kernel
theorem dX8_redeem_30 : decode cX8_redeem 30 = .ok (.aload_n 0, 1) := by decide +kernel
theorem dX8_redeem_31 : decode cX8_redeem 31 = .ok (.iload_n 1, 1) := by decide +kernel
theorem dX8_redeem_32 : decode cX8_redeem 32 = .ok (.invokevirtual 85, 3) := by decide +kernel
theorem dX8_redeem_35 : decode cX8_redeem 35 = .ok (.ifCond .ne 13, 3) := by decide +kernel
theorem dX8_redeem_38 : decode cX8_redeem 38 = .ok (.aload_n 0, 1) := by decide +kernel
theorem dX8_redeem_39 : decode cX8_redeem 39 = .ok (.iload_n 2, 1) := by decide +kernel
theorem dX8_redeem_40 : decode cX8_redeem 40 = .ok (.iload_n 1, 1) := by decide +kernel
theorem dX8_redeem_41 : decode cX8_redeem 41 = .ok (.invokevirtual 44, 3) := by decide +kernel
theorem dX8_redeem_44 : decode cX8_redeem 44 = .ok (.iload_n 3, 1) := by decide +kernel
theorem dX8_redeem_45 : decode cX8_redeem 45 = .ok (.if_icmp .ge 6, 3) := by decide +kernel
theorem dX8_redeem_48 : decode cX8_redeem 48 = .ok (.ldc 91, 2) := by decide +kernel
theorem dX8_redeem_50 : decode cX8_redeem 50 = .ok (.ireturn, 1) := by decide +kernel
theorem dX8_redeem_51 : decode cX8_redeem 51 = .ok (.aload_n 0, 1) := by decide +kernel
theorem dX8_redeem_52 : decode cX8_redeem 52 = .ok (.invokevirtual 78, 3) := by decide +kernel
theorem dX8_redeem_55 : decode cX8_redeem 55 = .ok (.aload_n 0, 1) := by decide +kernel
theorem dX8_redeem_56 : decode cX8_redeem 56 = .ok (.iload_n 2, 1) := by decide +kernel
theorem dX8_redeem_57 : decode cX8_redeem 57 = .ok (.iload_n 1, 1) := by decide +kernel
theorem dX8_redeem_58 : decode cX8_redeem 58 = .ok (.iload_n 3, 1) := by decide +kernel
theorem dX8_redeem_59 : decode cX8_redeem 59 = .ok (.invokevirtual 111, 3) := by decide +kernel
theorem dX8_redeem_62 : decode cX8_redeem 62 = .ok (.istore 4, 2) := by decide +kernel
theorem dX8_redeem_64 : decode cX8_redeem 64 = .ok (.aload_n 0, 1) := by decide +kernel
theorem dX8_redeem_65 : decode cX8_redeem 65 = .ok (.getfield 7, 3) := by decide +kernel
theorem dX8_redeem_68 : decode cX8_redeem 68 = .ok (.iload_n 2, 1) := by decide +kernel
theorem dX8_redeem_69 : decode cX8_redeem 69 = .ok (.iload_n 1, 1) := by decide +kernel
theorem dX8_redeem_70 : decode cX8_redeem 70 = .ok (.iconst 2, 1) := by decide +kernel
theorem dX8_redeem_71 : decode cX8_redeem 71 = .ok (.invokestatic 40, 3) := by decide +kernel
theorem dX8_redeem_74 : decode cX8_redeem 74 = .ok (.dup2, 1) := by decide +kernel
theorem dX8_redeem_75 : decode cX8_redeem 75 = .ok (.iaload, 1) := by decide +kernel
theorem dX8_redeem_76 : decode cX8_redeem 76 = .ok (.iload_n 3, 1) := by decide +kernel
theorem dX8_redeem_77 : decode cX8_redeem 77 = .ok (.iadd, 1) := by decide +kernel
theorem dX8_redeem_78 : decode cX8_redeem 78 = .ok (.iastore, 1) := by decide +kernel
theorem dX8_redeem_79 : decode cX8_redeem 79 = .ok (.aload_n 0, 1) := by decide +kernel
theorem dX8_redeem_80 : decode cX8_redeem 80 = .ok (.getfield 7, 3) := by decide +kernel
theorem dX8_redeem_83 : decode cX8_redeem 83 = .ok (.bipush 9, 2) := by decide +kernel
theorem dX8_redeem_85 : decode cX8_redeem 85 = .ok (.bipush 20, 2) := by decide +kernel
theorem dX8_redeem_87 : decode cX8_redeem 87 = .ok (.iload_n 1, 1) := by decide +kernel
theorem dX8_redeem_88 : decode cX8_redeem 88 = .ok (.imul, 1) := by decide +kernel
theorem dX8_redeem_89 : decode cX8_redeem 89 = .ok (.iadd, 1) := by decide +kernel
theorem dX8_redeem_90 : decode cX8_redeem 90 = .ok (.iconst 5, 1) := by decide +kernel
theorem dX8_redeem_91 : decode cX8_redeem 91 = .ok (.iadd, 1) := by decide +kernel
theorem dX8_redeem_92 : decode cX8_redeem 92 = .ok (.dup2, 1) := by decide +kernel
theorem dX8_redeem_93 : decode cX8_redeem 93 = .ok (.iaload, 1) := by decide +kernel
theorem dX8_redeem_94 : decode cX8_redeem 94 = .ok (.iload_n 3, 1) := by decide +kernel
theorem dX8_redeem_95 : decode cX8_redeem 95 = .ok (.isub, 1) := by decide +kernel
theorem dX8_redeem_96 : decode cX8_redeem 96 = .ok (.iastore, 1) := by decide +kernel
theorem dX8_redeem_97 : decode cX8_redeem 97 = .ok (.aload_n 0, 1) := by decide +kernel
theorem dX8_redeem_98 : decode cX8_redeem 98 = .ok (.getfield 7, 3) := by decide +kernel
theorem dX8_redeem_101 : decode cX8_redeem 101 = .ok (.bipush 9, 2) := by decide +kernel
theorem dX8_redeem_103 : decode cX8_redeem 103 = .ok (.bipush 20, 2) := by decide +kernel
theorem dX8_redeem_105 : decode cX8_redeem 105 = .ok (.iload_n 1, 1) := by decide +kernel
theorem dX8_redeem_106 : decode cX8_redeem 106 = .ok (.imul, 1) := by decide +kernel
theorem dX8_redeem_107 : decode cX8_redeem 107 = .ok (.iadd, 1) := by decide +kernel
theorem dX8_redeem_108 : decode cX8_redeem 108 = .ok (.bipush 7, 2) := by decide +kernel
theorem dX8_redeem_110 : decode cX8_redeem 110 = .ok (.iadd, 1) := by decide +kernel
theorem dX8_redeem_111 : decode cX8_redeem 111 = .ok (.dup2, 1) := by decide +kernel
theorem dX8_redeem_112 : decode cX8_redeem 112 = .ok (.iaload, 1) := by decide +kernel
theorem dX8_redeem_113 : decode cX8_redeem 113 = .ok (.iload_n 3, 1) := by decide +kernel
theorem dX8_redeem_114 : decode cX8_redeem 114 = .ok (.iadd, 1) := by decide +kernel
theorem dX8_redeem_115 : decode cX8_redeem 115 = .ok (.iastore, 1) := by decide +kernel
theorem dX8_redeem_116 : decode cX8_redeem 116 = .ok (.aload_n 0, 1) := by decide +kernel
theorem dX8_redeem_117 : decode cX8_redeem 117 = .ok (.getfield 7, 3) := by decide +kernel
theorem dX8_redeem_120 : decode cX8_redeem 120 = .ok (.iconst 4, 1) := by decide +kernel
theorem dX8_redeem_121 : decode cX8_redeem 121 = .ok (.dup2, 1) := by decide +kernel
theorem dX8_redeem_122 : decode cX8_redeem 122 = .ok (.iaload, 1) := by decide +kernel
theorem dX8_redeem_123 : decode cX8_redeem 123 = .ok (.iload_n 3, 1) := by decide +kernel
theorem dX8_redeem_124 : decode cX8_redeem 124 = .ok (.iadd, 1) := by decide +kernel
theorem dX8_redeem_125 : decode cX8_redeem 125 = .ok (.iastore, 1) := by decide +kernel
theorem dX8_redeem_126 : decode cX8_redeem 126 = .ok (.aload_n 0, 1) := by decide +kernel
theorem dX8_redeem_127 : decode cX8_redeem 127 = .ok (.iconst 3, 1) := by decide +kernel
theorem dX8_redeem_128 : decode cX8_redeem 128 = .ok (.iload_n 1, 1) := by decide +kernel
theorem dX8_redeem_129 : decode cX8_redeem 129 = .ok (.iload_n 2, 1) := by decide +kernel
theorem dX8_redeem_130 : decode cX8_redeem 130 = .ok (.iload_n 3, 1) := by decide +kernel
theorem dX8_redeem_131 : decode cX8_redeem 131 = .ok (.ldc 57, 2) := by decide +kernel
theorem dX8_redeem_133 : decode cX8_redeem 133 = .ok (.ldc 57, 2) := by decide +kernel
theorem dX8_redeem_135 : decode cX8_redeem 135 = .ok (.invokevirtual 114, 3) := by decide +kernel
theorem dX8_redeem_138 : decode cX8_redeem 138 = .ok (.iload 4, 2) := by decide +kernel
theorem dX8_redeem_140 : decode cX8_redeem 140 = .ok (.ifCond .ge 8, 3) := by decide +kernel
theorem dX8_redeem_143 : decode cX8_redeem 143 = .ok (.ldc 57, 2) := by decide +kernel
theorem dX8_redeem_145 : decode cX8_redeem 145 = .ok (.goto 9, 3) := by decide +kernel
theorem dX8_redeem_148 : decode cX8_redeem 148 = .ok (.aload_n 0, 1) := by decide +kernel
theorem dX8_redeem_149 : decode cX8_redeem 149 = .ok (.iload_n 1, 1) := by decide +kernel
theorem dX8_redeem_150 : decode cX8_redeem 150 = .ok (.iconst 5, 1) := by decide +kernel
theorem dX8_redeem_151 : decode cX8_redeem 151 = .ok (.invokevirtual 36, 3) := by decide +kernel
theorem dX8_redeem_154 : decode cX8_redeem 154 = .ok (.ireturn, 1) := by decide +kernel
theorem dX8_set_0 : decode cX8_set 0 = .ok (.iload_n 1, 1) := by decide +kernel
theorem dX8_set_1 : decode cX8_set 1 = .ok (.iconst 0, 1) := by decide +kernel
theorem dX8_set_2 : decode cX8_set 2 = .ok (.iconst 1, 1) := by decide +kernel
theorem dX8_set_3 : decode cX8_set 3 = .ok (.invokestatic 72, 3) := by decide +kernel
theorem dX8_set_6 : decode cX8_set 6 = .ok (.ifCond .eq 22, 3) := by decide +kernel
theorem dX8_set_9 : decode cX8_set 9 = .ok (.iload_n 2, 1) := by decide +kernel
theorem dX8_set_10 : decode cX8_set 10 = .ok (.iconst 0, 1) := by decide +kernel
theorem dX8_set_11 : decode cX8_set 11 = .ok (.iload_n 1, 1) := by decide +kernel
theorem dX8_set_12 : decode cX8_set 12 = .ok (.ifCond .ne 8, 3) := by decide +kernel
theorem dX8_set_15 : decode cX8_set 15 = .ok (.bipush 100, 2) := by decide +kernel
theorem dX8_set_17 : decode cX8_set 17 = .ok (.goto 5, 3) := by decide +kernel
theorem dX8_set_20 : decode cX8_set 20 = .ok (.bipush 36, 2) := by decide +kernel
theorem dX8_set_22 : decode cX8_set 22 = .ok (.invokestatic 72, 3) := by decide +kernel
theorem dX8_set_25 : decode cX8_set 25 = .ok (.ifCond .ne 6, 3) := by decide +kernel
theorem dX8_set_28 : decode cX8_set 28 = .ok (.ldc 76, 2) := by decide +kernel
theorem dX8_set_30 : decode cX8_set 30 = .ok (.ireturn, 1) := by decide +kernel
theorem dX8_set_31 : decode cX8_set 31 = .ok (.aload_n 0, 1) := by decide +kernel
theorem dX8_set_32 : decode cX8_set 32 = .ok (.invokevirtual 78, 3) := by decide +kernel
theorem dX8_set_35 : decode cX8_set 35 = .ok (.aload_n 0, 1) := by decide +kernel
theorem dX8_set_36 : decode cX8_set 36 = .ok (.getfield 7, 3) := by decide +kernel
theorem dX8_set_39 : decode cX8_set 39 = .ok (.bipush 7, 2) := by decide +kernel
theorem dX8_set_41 : decode cX8_set 41 = .ok (.iload_n 1, 1) := by decide +kernel
theorem dX8_set_42 : decode cX8_set 42 = .ok (.iadd, 1) := by decide +kernel
theorem dX8_set_43 : decode cX8_set 43 = .ok (.iaload, 1) := by decide +kernel
theorem dX8_set_44 : decode cX8_set 44 = .ok (.istore_n 3, 1) := by decide +kernel
theorem dX8_set_45 : decode cX8_set 45 = .ok (.aload_n 0, 1) := by decide +kernel
theorem dX8_set_46 : decode cX8_set 46 = .ok (.getfield 7, 3) := by decide +kernel
theorem dX8_set_49 : decode cX8_set 49 = .ok (.bipush 7, 2) := by decide +kernel
theorem dX8_set_51 : decode cX8_set 51 = .ok (.iload_n 1, 1) := by decide +kernel
theorem dX8_set_52 : decode cX8_set 52 = .ok (.iadd, 1) := by decide +kernel
theorem dX8_set_53 : decode cX8_set 53 = .ok (.iload_n 2, 1) := by decide +kernel
theorem dX8_set_54 : decode cX8_set 54 = .ok (.iastore, 1) := by decide +kernel
theorem dX8_set_55 : decode cX8_set 55 = .ok (.iload_n 3, 1) := by decide +kernel
theorem dX8_set_56 : decode cX8_set 56 = .ok (.ireturn, 1) := by decide +kernel
theorem dX8_lotOf_0 : decode cX8_lotOf 0 = .ok (.aload_n 0, 1) := by decide +kernel
theorem dX8_lotOf_1 : decode cX8_lotOf 1 = .ok (.iload_n 1, 1) := by decide +kernel
theorem dX8_lotOf_2 : decode cX8_lotOf 2 = .ok (.invokevirtual 81, 3) := by decide +kernel
theorem dX8_lotOf_5 : decode cX8_lotOf 5 = .ok (.ifCond .eq 13, 3) := by decide +kernel
theorem dX8_lotOf_8 : decode cX8_lotOf 8 = .ok (.iload_n 2, 1) := by decide +kernel
theorem dX8_lotOf_9 : decode cX8_lotOf 9 = .ok (.iconst 0, 1) := by decide +kernel
theorem dX8_lotOf_10 : decode cX8_lotOf 10 = .ok (.bipush 9, 2) := by decide +kernel
theorem dX8_lotOf_12 : decode cX8_lotOf 12 = .ok (.invokestatic 72, 3) := by decide +kernel
theorem dX8_lotOf_15 : decode cX8_lotOf 15 = .ok (.ifCond .ne 6, 3) := by decide +kernel
theorem dX8_lotOf_18 : decode cX8_lotOf 18 = .ok (.ldc 76, 2) := by decide +kernel
theorem dX8_lotOf_20 : decode cX8_lotOf 20 = .ok (.ireturn, 1) := by decide +kernel
theorem dX8_lotOf_21 : decode cX8_lotOf 21 = .ok (.aload_n 0, 1) := by decide +kernel
theorem dX8_lotOf_22 : decode cX8_lotOf 22 = .ok (.iload_n 1, 1) := by decide +kernel
theorem dX8_lotOf_23 : decode cX8_lotOf 23 = .ok (.invokevirtual 62, 3) := by decide +kernel
theorem dX8_lotOf_26 : decode cX8_lotOf 26 = .ok (.iload_n 2, 1) := by decide +kernel
theorem dX8_lotOf_27 : decode cX8_lotOf 27 = .ok (.tableswitch 136 0 8 #[49, 49, 56, 61, 86, 110, 116, 122, 129], 49) := by decide +kernel
theorem dX8_lotOf_76 : decode cX8_lotOf 76 = .ok (.aload_n 0, 1) := by decide +kernel
theorem dX8_lotOf_77 : decode cX8_lotOf 77 = .ok (.iload_n 1, 1) := by decide +kernel
theorem dX8_lotOf_78 : decode cX8_lotOf 78 = .ok (.iload_n 2, 1) := by decide +kernel
theorem dX8_lotOf_79 : decode cX8_lotOf 79 = .ok (.invokevirtual 36, 3) := by decide +kernel
theorem dX8_lotOf_82 : decode cX8_lotOf 82 = .ok (.ireturn, 1) := by decide +kernel
theorem dX8_lotOf_83 : decode cX8_lotOf 83 = .ok (.aload_n 0, 1) := by decide +kernel
theorem dX8_lotOf_84 : decode cX8_lotOf 84 = .ok (.invokevirtual 58, 3) := by decide +kernel
theorem dX8_lotOf_87 : decode cX8_lotOf 87 = .ok (.ireturn, 1) := by decide +kernel
theorem dX8_lotOf_88 : decode cX8_lotOf 88 = .ok (.aload_n 0, 1) := by decide +kernel
theorem dX8_lotOf_89 : decode cX8_lotOf 89 = .ok (.iload_n 1, 1) := by decide +kernel
theorem dX8_lotOf_90 : decode cX8_lotOf 90 = .ok (.invokevirtual 85, 3) := by decide +kernel
theorem dX8_lotOf_93 : decode cX8_lotOf 93 = .ok (.ifCond .eq 13, 3) := by decide +kernel
theorem dX8_lotOf_96 : decode cX8_lotOf 96 = .ok (.aload_n 0, 1) := by decide +kernel
theorem dX8_lotOf_97 : decode cX8_lotOf 97 = .ok (.invokevirtual 58, 3) := by decide +kernel
theorem dX8_lotOf_100 : decode cX8_lotOf 100 = .ok (.bipush 90, 2) := by decide +kernel
theorem dX8_lotOf_102 : decode cX8_lotOf 102 = .ok (.idiv, 1) := by decide +kernel
theorem dX8_lotOf_103 : decode cX8_lotOf 103 = .ok (.goto 9, 3) := by decide +kernel
theorem dX8_lotOf_106 : decode cX8_lotOf 106 = .ok (.aload_n 0, 1) := by decide +kernel
theorem dX8_lotOf_107 : decode cX8_lotOf 107 = .ok (.iload_n 1, 1) := by decide +kernel
theorem dX8_lotOf_108 : decode cX8_lotOf 108 = .ok (.iconst 5, 1) := by decide +kernel
theorem dX8_lotOf_109 : decode cX8_lotOf 109 = .ok (.invokevirtual 36, 3) := by decide +kernel
theorem dX8_lotOf_112 : decode cX8_lotOf 112 = .ok (.ireturn, 1) := by decide +kernel
theorem dX8_lotOf_113 : decode cX8_lotOf 113 = .ok (.aload_n 0, 1) := by decide +kernel
theorem dX8_lotOf_114 : decode cX8_lotOf 114 = .ok (.iload_n 1, 1) := by decide +kernel
theorem dX8_lotOf_115 : decode cX8_lotOf 115 = .ok (.invokevirtual 85, 3) := by decide +kernel
theorem dX8_lotOf_118 : decode cX8_lotOf 118 = .ok (.ifCond .eq 11, 3) := by decide +kernel
theorem dX8_lotOf_121 : decode cX8_lotOf 121 = .ok (.aload_n 0, 1) := by decide +kernel
theorem dX8_lotOf_122 : decode cX8_lotOf 122 = .ok (.iload_n 1, 1) := by decide +kernel
theorem dX8_lotOf_123 : decode cX8_lotOf 123 = .ok (.invokevirtual 125, 3) := by decide +kernel
theorem dX8_lotOf_126 : decode cX8_lotOf 126 = .ok (.goto 10, 3) := by decide +kernel
theorem dX8_lotOf_129 : decode cX8_lotOf 129 = .ok (.aload_n 0, 1) := by decide +kernel
theorem dX8_lotOf_130 : decode cX8_lotOf 130 = .ok (.iload_n 1, 1) := by decide +kernel
theorem dX8_lotOf_131 : decode cX8_lotOf 131 = .ok (.bipush 6, 2) := by decide +kernel
theorem dX8_lotOf_133 : decode cX8_lotOf 133 = .ok (.invokevirtual 36, 3) := by decide +kernel
theorem dX8_lotOf_136 : decode cX8_lotOf 136 = .ok (.ireturn, 1) := by decide +kernel
theorem dX8_lotOf_137 : decode cX8_lotOf 137 = .ok (.aload_n 0, 1) := by decide +kernel
theorem dX8_lotOf_138 : decode cX8_lotOf 138 = .ok (.iload_n 1, 1) := by decide +kernel
theorem dX8_lotOf_139 : decode cX8_lotOf 139 = .ok (.invokevirtual 104, 3) := by decide +kernel
theorem dX8_lotOf_142 : decode cX8_lotOf 142 = .ok (.ireturn, 1) := by decide +kernel
theorem dX8_lotOf_143 : decode cX8_lotOf 143 = .ok (.aload_n 0, 1) := by decide +kernel
theorem dX8_lotOf_144 : decode cX8_lotOf 144 = .ok (.iload_n 1, 1) := by decide +kernel
theorem dX8_lotOf_145 : decode cX8_lotOf 145 = .ok (.invokevirtual 95, 3) := by decide +kernel
theorem dX8_lotOf_148 : decode cX8_lotOf 148 = .ok (.ireturn, 1) := by decide +kernel
theorem dX8_lotOf_149 : decode cX8_lotOf 149 = .ok (.aload_n 0, 1) := by decide +kernel
theorem dX8_lotOf_150 : decode cX8_lotOf 150 = .ok (.iload_n 1, 1) := by decide +kernel
theorem dX8_lotOf_151 : decode cX8_lotOf 151 = .ok (.iconst 3, 1) := by decide +kernel
theorem dX8_lotOf_152 : decode cX8_lotOf 152 = .ok (.invokevirtual 36, 3) := by decide +kernel
theorem dX8_lotOf_155 : decode cX8_lotOf 155 = .ok (.ireturn, 1) := by decide +kernel
theorem dX8_lotOf_156 : decode cX8_lotOf 156 = .ok (.aload_n 0, 1) := by decide +kernel
theorem dX8_lotOf_157 : decode cX8_lotOf 157 = .ok (.iload_n 1, 1) := by decide +kernel
theorem dX8_lotOf_158 : decode cX8_lotOf 158 = .ok (.iconst 4, 1) := by decide +kernel
theorem dX8_lotOf_159 : decode cX8_lotOf 159 = .ok (.invokevirtual 36, 3) := by decide +kernel
theorem dX8_lotOf_162 : decode cX8_lotOf 162 = .ok (.ireturn, 1) := by decide +kernel
theorem dX8_lotOf_163 : decode cX8_lotOf 163 = .ok (.aload_n 0, 1) := by decide +kernel
theorem dX8_lotOf_164 : decode cX8_lotOf 164 = .ok (.iload_n 1, 1) := by decide +kernel
theorem dX8_lotOf_165 : decode cX8_lotOf 165 = .ok (.bipush 7, 2) := by decide +kernel
theorem dX8_lotOf_167 : decode cX8_lotOf 167 = .ok (.invokevirtual 36, 3) := by decide +kernel
theorem dX8_lotOf_170 : decode cX8_lotOf 170 = .ok (.ireturn, 1) := by decide +kernel
theorem dX8_barrel_0 : decode cX8_barrel 0 = .ok (.aload_n 0, 1) := by decide +kernel
theorem dX8_barrel_1 : decode cX8_barrel 1 = .ok (.iload_n 1, 1) := by decide +kernel
theorem dX8_barrel_2 : decode cX8_barrel 2 = .ok (.invokevirtual 81, 3) := by decide +kernel
theorem dX8_barrel_5 : decode cX8_barrel 5 = .ok (.ifCond .eq 7, 3) := by decide +kernel
theorem dX8_barrel_8 : decode cX8_barrel 8 = .ok (.iload_n 2, 1) := by decide +kernel
theorem dX8_barrel_9 : decode cX8_barrel 9 = .ok (.ifCond .ge 6, 3) := by decide +kernel
theorem dX8_barrel_12 : decode cX8_barrel 12 = .ok (.ldc 76, 2) := by decide +kernel
theorem dX8_barrel_14 : decode cX8_barrel 14 = .ok (.ireturn, 1) := by decide +kernel
theorem dX8_barrel_15 : decode cX8_barrel 15 = .ok (.iload_n 2, 1) := by decide +kernel
theorem dX8_barrel_16 : decode cX8_barrel 16 = .ok (.aload_n 0, 1) := by decide +kernel
theorem dX8_barrel_17 : decode cX8_barrel 17 = .ok (.iload_n 1, 1) := by decide +kernel
theorem dX8_barrel_18 : decode cX8_barrel 18 = .ok (.iconst 0, 1) := by decide +kernel
theorem dX8_barrel_19 : decode cX8_barrel 19 = .ok (.invokevirtual 36, 3) := by decide +kernel
theorem dX8_barrel_22 : decode cX8_barrel 22 = .ok (.if_icmp .ge 15, 3) := by decide +kernel
theorem dX8_barrel_25 : decode cX8_barrel 25 = .ok (.aload_n 0, 1) := by decide +kernel
theorem dX8_barrel_26 : decode cX8_barrel 26 = .ok (.iload_n 1, 1) := by decide +kernel
theorem dX8_barrel_27 : decode cX8_barrel 27 = .ok (.bipush 8, 2) := by decide +kernel
theorem dX8_barrel_29 : decode cX8_barrel 29 = .ok (.iload_n 2, 1) := by decide +kernel
theorem dX8_barrel_30 : decode cX8_barrel 30 = .ok (.iadd, 1) := by decide +kernel
theorem dX8_barrel_31 : decode cX8_barrel 31 = .ok (.invokevirtual 36, 3) := by decide +kernel
theorem dX8_barrel_34 : decode cX8_barrel 34 = .ok (.goto 5, 3) := by decide +kernel
theorem dX8_barrel_37 : decode cX8_barrel 37 = .ok (.ldc 57, 2) := by decide +kernel
theorem dX8_barrel_39 : decode cX8_barrel 39 = .ok (.ireturn, 1) := by decide +kernel
theorem dX8_mean_0 : decode cX8_mean 0 = .ok (.aload_n 0, 1) := by decide +kernel
theorem dX8_mean_1 : decode cX8_mean 1 = .ok (.iload_n 1, 1) := by decide +kernel
theorem dX8_mean_2 : decode cX8_mean 2 = .ok (.iload_n 2, 1) := by decide +kernel
theorem dX8_mean_3 : decode cX8_mean 3 = .ok (.invokevirtual 44, 3) := by decide +kernel
theorem dX8_mean_6 : decode cX8_mean 6 = .ok (.istore_n 3, 1) := by decide +kernel
theorem dX8_mean_7 : decode cX8_mean 7 = .ok (.aload_n 0, 1) := by decide +kernel
theorem dX8_mean_8 : decode cX8_mean 8 = .ok (.getfield 7, 3) := by decide +kernel
theorem dX8_mean_11 : decode cX8_mean 11 = .ok (.iload_n 1, 1) := by decide +kernel
theorem dX8_mean_12 : decode cX8_mean 12 = .ok (.iload_n 2, 1) := by decide +kernel
theorem dX8_mean_13 : decode cX8_mean 13 = .ok (.iconst 1, 1) := by decide +kernel
theorem dX8_mean_14 : decode cX8_mean 14 = .ok (.invokestatic 40, 3) := by decide +kernel
theorem dX8_mean_17 : decode cX8_mean 17 = .ok (.iaload, 1) := by decide +kernel
theorem dX8_mean_18 : decode cX8_mean 18 = .ok (.i2f, 1) := by decide +kernel
theorem dX8_mean_19 : decode cX8_mean 19 = .ok (.iload_n 3, 1) := by decide +kernel
theorem dX8_mean_20 : decode cX8_mean 20 = .ok (.ifCond .ne 7, 3) := by decide +kernel
theorem dX8_mean_23 : decode cX8_mean 23 = .ok (.iconst 1, 1) := by decide +kernel
theorem dX8_mean_24 : decode cX8_mean 24 = .ok (.goto 4, 3) := by decide +kernel
theorem dX8_mean_27 : decode cX8_mean 27 = .ok (.iload_n 3, 1) := by decide +kernel
theorem dX8_mean_28 : decode cX8_mean 28 = .ok (.i2f, 1) := by decide +kernel
theorem dX8_mean_29 : decode cX8_mean 29 = .ok (.fdiv, 1) := by decide +kernel
theorem dX8_mean_30 : decode cX8_mean 30 = .ok (.fstore 4, 2) := by decide +kernel
theorem dX8_mean_32 : decode cX8_mean 32 = .ok (.iload_n 3, 1) := by decide +kernel
theorem dX8_mean_33 : decode cX8_mean 33 = .ok (.ifCond .ne 8, 3) := by decide +kernel
theorem dX8_mean_36 : decode cX8_mean 36 = .ok (.ldc 57, 2) := by decide +kernel
theorem dX8_mean_38 : decode cX8_mean 38 = .ok (.goto 8, 3) := by decide +kernel
theorem dX8_mean_41 : decode cX8_mean 41 = .ok (.fload 4, 2) := by decide +kernel
theorem dX8_mean_43 : decode cX8_mean 43 = .ok (.invokestatic 132, 3) := by decide +kernel
theorem dX8_mean_46 : decode cX8_mean 46 = .ok (.ireturn, 1) := by decide +kernel
theorem dX8_holding_0 : decode cX8_holding 0 = .ok (.aload_n 0, 1) := by decide +kernel
theorem dX8_holding_1 : decode cX8_holding 1 = .ok (.iload_n 1, 1) := by decide +kernel
theorem dX8_holding_2 : decode cX8_holding 2 = .ok (.invokevirtual 118, 3) := by decide +kernel
theorem dX8_holding_5 : decode cX8_holding 5 = .ok (.ifCond .eq 20, 3) := by decide +kernel
theorem dX8_holding_8 : decode cX8_holding 8 = .ok (.aload_n 0, 1) := by decide +kernel
theorem dX8_holding_9 : decode cX8_holding 9 = .ok (.iload_n 2, 1) := by decide +kernel
theorem dX8_holding_10 : decode cX8_holding 10 = .ok (.invokevirtual 81, 3) := by decide +kernel
theorem dX8_holding_13 : decode cX8_holding 13 = .ok (.ifCond .eq 12, 3) := by decide +kernel
theorem dX8_holding_16 : decode cX8_holding 16 = .ok (.iload_n 3, 1) := by decide +kernel
theorem dX8_holding_17 : decode cX8_holding 17 = .ok (.iconst 0, 1) := by decide +kernel
theorem dX8_holding_18 : decode cX8_holding 18 = .ok (.iconst 3, 1) := by decide +kernel
theorem dX8_holding_19 : decode cX8_holding 19 = .ok (.invokestatic 72, 3) := by decide +kernel
theorem dX8_holding_22 : decode cX8_holding 22 = .ok (.ifCond .ne 6, 3) := by decide +kernel
theorem dX8_holding_25 : decode cX8_holding 25 = .ok (.ldc 76, 2) := by decide +kernel
theorem dX8_holding_27 : decode cX8_holding 27 = .ok (.ireturn, 1) := by decide +kernel
theorem dX8_holding_28 : decode cX8_holding 28 = .ok (.iload_n 3, 1) := by decide +kernel
theorem dX8_holding_29 : decode cX8_holding 29 = .ok (.iconst 3, 1) := by decide +kernel
theorem dX8_holding_30 : decode cX8_holding 30 = .ok (.if_icmp .ge 17, 3) := by decide +kernel
theorem dX8_holding_33 : decode cX8_holding 33 = .ok (.aload_n 0, 1) := by decide +kernel
theorem dX8_holding_34 : decode cX8_holding 34 = .ok (.getfield 7, 3) := by decide +kernel
theorem dX8_holding_37 : decode cX8_holding 37 = .ok (.iload_n 1, 1) := by decide +kernel
theorem dX8_holding_38 : decode cX8_holding 38 = .ok (.iload_n 2, 1) := by decide +kernel
theorem dX8_holding_39 : decode cX8_holding 39 = .ok (.iload_n 3, 1) := by decide +kernel
theorem dX8_holding_40 : decode cX8_holding 40 = .ok (.invokestatic 40, 3) := by decide +kernel
theorem dX8_holding_43 : decode cX8_holding 43 = .ok (.iaload, 1) := by decide +kernel
theorem dX8_holding_44 : decode cX8_holding 44 = .ok (.goto 9, 3) := by decide +kernel
theorem dX8_holding_47 : decode cX8_holding 47 = .ok (.aload_n 0, 1) := by decide +kernel
theorem dX8_holding_48 : decode cX8_holding 48 = .ok (.iload_n 1, 1) := by decide +kernel
theorem dX8_holding_49 : decode cX8_holding 49 = .ok (.iload_n 2, 1) := by decide +kernel
theorem dX8_holding_50 : decode cX8_holding 50 = .ok (.invokevirtual 138, 3) := by decide +kernel
theorem dX8_holding_53 : decode cX8_holding 53 = .ok (.ireturn, 1) := by decide +kernel
theorem dX8_account_0 : decode cX8_account 0 = .ok (.iload_n 1, 1) := by decide +kernel
theorem dX8_account_1 : decode cX8_account 1 = .ok (.iconst (-1), 1) := by decide +kernel
theorem dX8_account_2 : decode cX8_account 2 = .ok (.if_icmp .ne 14, 3) := by decide +kernel
theorem dX8_account_5 : decode cX8_account 5 = .ok (.aload_n 0, 1) := by decide +kernel
theorem dX8_account_6 : decode cX8_account 6 = .ok (.getfield 7, 3) := by decide +kernel
theorem dX8_account_9 : decode cX8_account 9 = .ok (.sipush 135, 3) := by decide +kernel
theorem dX8_account_12 : decode cX8_account 12 = .ok (.iaload, 1) := by decide +kernel
theorem dX8_account_13 : decode cX8_account 13 = .ok (.goto 26, 3) := by decide +kernel
theorem dX8_account_16 : decode cX8_account 16 = .ok (.aload_n 0, 1) := by decide +kernel
theorem dX8_account_17 : decode cX8_account 17 = .ok (.iload_n 1, 1) := by decide +kernel
theorem dX8_account_18 : decode cX8_account 18 = .ok (.invokevirtual 118, 3) := by decide +kernel
theorem dX8_account_21 : decode cX8_account 21 = .ok (.ifCond .eq 16, 3) := by decide +kernel
theorem dX8_account_24 : decode cX8_account 24 = .ok (.aload_n 0, 1) := by decide +kernel
theorem dX8_account_25 : decode cX8_account 25 = .ok (.getfield 7, 3) := by decide +kernel
theorem dX8_account_28 : decode cX8_account 28 = .ok (.sipush 129, 3) := by decide +kernel
theorem dX8_account_31 : decode cX8_account 31 = .ok (.iload_n 1, 1) := by decide +kernel
theorem dX8_account_32 : decode cX8_account 32 = .ok (.iadd, 1) := by decide +kernel
theorem dX8_account_33 : decode cX8_account 33 = .ok (.iaload, 1) := by decide +kernel
theorem dX8_account_34 : decode cX8_account 34 = .ok (.goto 5, 3) := by decide +kernel
theorem dX8_account_37 : decode cX8_account 37 = .ok (.ldc 76, 2) := by decide +kernel
theorem dX8_account_39 : decode cX8_account 39 = .ok (.ireturn, 1) := by decide +kernel
theorem dX8_entry_0 : decode cX8_entry 0 = .ok (.iload_n 1, 1) := by decide +kernel
theorem dX8_entry_1 : decode cX8_entry 1 = .ok (.ifCond .lt 12, 3) := by decide +kernel
theorem dX8_entry_4 : decode cX8_entry 4 = .ok (.iload_n 2, 1) := by decide +kernel
theorem dX8_entry_5 : decode cX8_entry 5 = .ok (.iconst 0, 1) := by decide +kernel
theorem dX8_entry_6 : decode cX8_entry 6 = .ok (.iconst 5, 1) := by decide +kernel
theorem dX8_entry_7 : decode cX8_entry 7 = .ok (.invokestatic 72, 3) := by decide +kernel
theorem dX8_entry_10 : decode cX8_entry 10 = .ok (.ifCond .ne 6, 3) := by decide +kernel
theorem dX8_entry_13 : decode cX8_entry 13 = .ok (.ldc 76, 2) := by decide +kernel
theorem dX8_entry_15 : decode cX8_entry 15 = .ok (.ireturn, 1) := by decide +kernel
theorem dX8_entry_16 : decode cX8_entry 16 = .ok (.iload_n 1, 1) := by decide +kernel
theorem dX8_entry_17 : decode cX8_entry 17 = .ok (.aload_n 0, 1) := by decide +kernel
theorem dX8_entry_18 : decode cX8_entry 18 = .ok (.getfield 7, 3) := by decide +kernel
theorem dX8_entry_21 : decode cX8_entry 21 = .ok (.bipush 6, 2) := by decide +kernel
theorem dX8_entry_23 : decode cX8_entry 23 = .ok (.iaload, 1) := by decide +kernel
theorem dX8_entry_24 : decode cX8_entry 24 = .ok (.if_icmp .ge 21, 3) := by decide +kernel
theorem dX8_entry_27 : decode cX8_entry 27 = .ok (.aload_n 0, 1) := by decide +kernel
theorem dX8_entry_28 : decode cX8_entry 28 = .ok (.getfield 7, 3) := by decide +kernel
theorem dX8_entry_31 : decode cX8_entry 31 = .ok (.sipush 244, 3) := by decide +kernel
theorem dX8_entry_34 : decode cX8_entry 34 = .ok (.bipush 6, 2) := by decide +kernel
theorem dX8_entry_36 : decode cX8_entry 36 = .ok (.iload_n 1, 1) := by decide +kernel
theorem dX8_entry_37 : decode cX8_entry 37 = .ok (.imul, 1) := by decide +kernel
theorem dX8_entry_38 : decode cX8_entry 38 = .ok (.iadd, 1) := by decide +kernel
theorem dX8_entry_39 : decode cX8_entry 39 = .ok (.iload_n 2, 1) := by decide +kernel
theorem dX8_entry_40 : decode cX8_entry 40 = .ok (.iadd, 1) := by decide +kernel
theorem dX8_entry_41 : decode cX8_entry 41 = .ok (.iaload, 1) := by decide +kernel
theorem dX8_entry_42 : decode cX8_entry 42 = .ok (.goto 5, 3) := by decide +kernel
theorem dX8_entry_45 : decode cX8_entry 45 = .ok (.ldc 57, 2) := by decide +kernel
theorem dX8_entry_47 : decode cX8_entry 47 = .ok (.ireturn, 1) := by decide +kernel
theorem dX8_cases_0 : decode cX8_cases 0 = .ok (.aload_n 0, 1) := by decide +kernel
theorem dX8_cases_1 : decode cX8_cases 1 = .ok (.iload_n 1, 1) := by decide +kernel
theorem dX8_cases_2 : decode cX8_cases 2 = .ok (.invokevirtual 81, 3) := by decide +kernel
theorem dX8_cases_5 : decode cX8_cases 5 = .ok (.ifCond .eq 13, 3) := by decide +kernel
theorem dX8_cases_8 : decode cX8_cases 8 = .ok (.iload_n 2, 1) := by decide +kernel
theorem dX8_cases_9 : decode cX8_cases 9 = .ok (.iconst 0, 1) := by decide +kernel
theorem dX8_cases_10 : decode cX8_cases 10 = .ok (.bipush 120, 2) := by decide +kernel
theorem dX8_cases_12 : decode cX8_cases 12 = .ok (.invokestatic 72, 3) := by decide +kernel
theorem dX8_cases_15 : decode cX8_cases 15 = .ok (.ifCond .ne 6, 3) := by decide +kernel
theorem dX8_cases_18 : decode cX8_cases 18 = .ok (.ldc 76, 2) := by decide +kernel
theorem dX8_cases_20 : decode cX8_cases 20 = .ok (.ireturn, 1) := by decide +kernel
theorem dX8_cases_21 : decode cX8_cases 21 = .ok (.aload_n 0, 1) := by decide +kernel
theorem dX8_cases_22 : decode cX8_cases 22 = .ok (.iload_n 1, 1) := by decide +kernel
theorem dX8_cases_23 : decode cX8_cases 23 = .ok (.invokevirtual 62, 3) := by decide +kernel
theorem dX8_cases_26 : decode cX8_cases 26 = .ok (.aload_n 0, 1) := by decide +kernel
theorem dX8_cases_27 : decode cX8_cases 27 = .ok (.iload_n 1, 1) := by decide +kernel
theorem dX8_cases_28 : decode cX8_cases 28 = .ok (.invokevirtual 85, 3) := by decide +kernel
theorem dX8_cases_31 : decode cX8_cases 31 = .ok (.ifCond .eq 12, 3) := by decide +kernel
theorem dX8_cases_34 : decode cX8_cases 34 = .ok (.aload_n 0, 1) := by decide +kernel
theorem dX8_cases_35 : decode cX8_cases 35 = .ok (.iload_n 1, 1) := by decide +kernel
theorem dX8_cases_36 : decode cX8_cases 36 = .ok (.iload_n 2, 1) := by decide +kernel
theorem dX8_cases_37 : decode cX8_cases 37 = .ok (.invokevirtual 66, 3) := by decide +kernel
theorem dX8_cases_40 : decode cX8_cases 40 = .ok (.goto 5, 3) := by decide +kernel
theorem dX8_cases_43 : decode cX8_cases 43 = .ok (.ldc 91, 2) := by decide +kernel
theorem dX8_cases_45 : decode cX8_cases 45 = .ok (.ireturn, 1) := by decide +kernel
theorem dX8_sellable_0 : decode cX8_sellable 0 = .ok (.aload_n 0, 1) := by decide +kernel
theorem dX8_sellable_1 : decode cX8_sellable 1 = .ok (.iload_n 1, 1) := by decide +kernel
theorem dX8_sellable_2 : decode cX8_sellable 2 = .ok (.invokevirtual 81, 3) := by decide +kernel
theorem dX8_sellable_5 : decode cX8_sellable 5 = .ok (.ifCond .ne 6, 3) := by decide +kernel
theorem dX8_sellable_8 : decode cX8_sellable 8 = .ok (.ldc 76, 2) := by decide +kernel
theorem dX8_sellable_10 : decode cX8_sellable 10 = .ok (.ireturn, 1) := by decide +kernel
theorem dX8_sellable_11 : decode cX8_sellable 11 = .ok (.aload_n 0, 1) := by decide +kernel
theorem dX8_sellable_12 : decode cX8_sellable 12 = .ok (.iload_n 1, 1) := by decide +kernel
theorem dX8_sellable_13 : decode cX8_sellable 13 = .ok (.invokevirtual 85, 3) := by decide +kernel
theorem dX8_sellable_16 : decode cX8_sellable 16 = .ok (.ifCond .ne 6, 3) := by decide +kernel
theorem dX8_sellable_19 : decode cX8_sellable 19 = .ok (.ldc 91, 2) := by decide +kernel
theorem dX8_sellable_21 : decode cX8_sellable 21 = .ok (.ireturn, 1) := by decide +kernel
theorem dX8_sellable_22 : decode cX8_sellable 22 = .ok (.aload_n 0, 1) := by decide +kernel
theorem dX8_sellable_23 : decode cX8_sellable 23 = .ok (.iload_n 1, 1) := by decide +kernel
theorem dX8_sellable_24 : decode cX8_sellable 24 = .ok (.invokevirtual 125, 3) := by decide +kernel
theorem dX8_sellable_27 : decode cX8_sellable 27 = .ok (.aload_n 0, 1) := by decide +kernel
theorem dX8_sellable_28 : decode cX8_sellable 28 = .ok (.iload_n 1, 1) := by decide +kernel
theorem dX8_sellable_29 : decode cX8_sellable 29 = .ok (.invokevirtual 104, 3) := by decide +kernel
theorem dX8_sellable_32 : decode cX8_sellable 32 = .ok (.isub, 1) := by decide +kernel
theorem dX8_sellable_33 : decode cX8_sellable 33 = .ok (.istore_n 2, 1) := by decide +kernel
theorem dX8_sellable_34 : decode cX8_sellable 34 = .ok (.iload_n 2, 1) := by decide +kernel
theorem dX8_sellable_35 : decode cX8_sellable 35 = .ok (.ifCond .ge 7, 3) := by decide +kernel
theorem dX8_sellable_38 : decode cX8_sellable 38 = .ok (.iconst 0, 1) := by decide +kernel
theorem dX8_sellable_39 : decode cX8_sellable 39 = .ok (.goto 4, 3) := by decide +kernel
theorem dX8_sellable_42 : decode cX8_sellable 42 = .ok (.iload_n 2, 1) := by decide +kernel
theorem dX8_sellable_43 : decode cX8_sellable 43 = .ok (.ireturn, 1) := by decide +kernel
theorem dX8_deadline_0 : decode cX8_deadline 0 = .ok (.aload_n 0, 1) := by decide +kernel
theorem dX8_deadline_1 : decode cX8_deadline 1 = .ok (.iload_n 1, 1) := by decide +kernel
theorem dX8_deadline_2 : decode cX8_deadline 2 = .ok (.invokevirtual 81, 3) := by decide +kernel
theorem dX8_deadline_5 : decode cX8_deadline 5 = .ok (.ifCond .ne 6, 3) := by decide +kernel
theorem dX8_deadline_8 : decode cX8_deadline 8 = .ok (.ldc 76, 2) := by decide +kernel
theorem dX8_deadline_10 : decode cX8_deadline 10 = .ok (.ireturn, 1) := by decide +kernel
theorem dX8_deadline_11 : decode cX8_deadline 11 = .ok (.aload_n 0, 1) := by decide +kernel
theorem dX8_deadline_12 : decode cX8_deadline 12 = .ok (.iload_n 1, 1) := by decide +kernel
theorem dX8_deadline_13 : decode cX8_deadline 13 = .ok (.invokevirtual 85, 3) := by decide +kernel
theorem dX8_deadline_16 : decode cX8_deadline 16 = .ok (.ifCond .ne 6, 3) := by decide +kernel
theorem dX8_deadline_19 : decode cX8_deadline 19 = .ok (.ldc 91, 2) := by decide +kernel
theorem dX8_deadline_21 : decode cX8_deadline 21 = .ok (.ireturn, 1) := by decide +kernel
theorem dX8_deadline_22 : decode cX8_deadline 22 = .ok (.aload_n 0, 1) := by decide +kernel
theorem dX8_deadline_23 : decode cX8_deadline 23 = .ok (.iload_n 1, 1) := by decide +kernel
theorem dX8_deadline_24 : decode cX8_deadline 24 = .ok (.invokevirtual 62, 3) := by decide +kernel
theorem dX8_deadline_27 : decode cX8_deadline 27 = .ok (.aload_n 0, 1) := by decide +kernel
theorem dX8_deadline_28 : decode cX8_deadline 28 = .ok (.iload_n 1, 1) := by decide +kernel
theorem dX8_deadline_29 : decode cX8_deadline 29 = .ok (.invokevirtual 104, 3) := by decide +kernel
theorem dX8_deadline_32 : decode cX8_deadline 32 = .ok (.istore_n 2, 1) := by decide +kernel
theorem dX8_deadline_33 : decode cX8_deadline 33 = .ok (.iconst 0, 1) := by decide +kernel
theorem dX8_deadline_34 : decode cX8_deadline 34 = .ok (.istore_n 3, 1) := by decide +kernel
theorem dX8_deadline_35 : decode cX8_deadline 35 = .ok (.iload_n 3, 1) := by decide +kernel
theorem dX8_deadline_36 : decode cX8_deadline 36 = .ok (.bipush 120, 2) := by decide +kernel
theorem dX8_deadline_38 : decode cX8_deadline 38 = .ok (.if_icmp .gt 27, 3) := by decide +kernel
theorem dX8_deadline_41 : decode cX8_deadline 41 = .ok (.aload_n 0, 1) := by decide +kernel
theorem dX8_deadline_42 : decode cX8_deadline 42 = .ok (.iload_n 1, 1) := by decide +kernel
theorem dX8_deadline_43 : decode cX8_deadline 43 = .ok (.iload_n 3, 1) := by decide +kernel
theorem dX8_deadline_44 : decode cX8_deadline 44 = .ok (.ifCond .ne 7, 3) := by decide +kernel
theorem dX8_deadline_47 : decode cX8_deadline 47 = .ok (.iconst 0, 1) := by decide +kernel
theorem dX8_deadline_48 : decode cX8_deadline 48 = .ok (.goto 4, 3) := by decide +kernel
theorem dX8_deadline_51 : decode cX8_deadline 51 = .ok (.iconst 1, 1) := by decide +kernel
theorem dX8_deadline_52 : decode cX8_deadline 52 = .ok (.invokevirtual 66, 3) := by decide +kernel
theorem dX8_deadline_55 : decode cX8_deadline 55 = .ok (.iload_n 2, 1) := by decide +kernel
theorem dX8_deadline_56 : decode cX8_deadline 56 = .ok (.if_icmp .lt 9, 3) := by decide +kernel
theorem dX8_deadline_59 : decode cX8_deadline 59 = .ok (.iinc 3 1, 3) := by decide +kernel
theorem dX8_deadline_62 : decode cX8_deadline 62 = .ok (.goto (-27), 3) := by decide +kernel
theorem dX8_deadline_65 : decode cX8_deadline 65 = .ok (.iload_n 3, 1) := by decide +kernel
theorem dX8_deadline_66 : decode cX8_deadline 66 = .ok (.bipush 120, 2) := by decide +kernel
theorem dX8_deadline_68 : decode cX8_deadline 68 = .ok (.if_icmp .le 8, 3) := by decide +kernel
theorem dX8_deadline_71 : decode cX8_deadline 71 = .ok (.ldc 57, 2) := by decide +kernel
theorem dX8_deadline_73 : decode cX8_deadline 73 = .ok (.goto 4, 3) := by decide +kernel
theorem dX8_deadline_76 : decode cX8_deadline 76 = .ok (.iload_n 3, 1) := by decide +kernel
theorem dX8_deadline_77 : decode cX8_deadline 77 = .ok (.ireturn, 1) := by decide +kernel
theorem dX8_topping_0 : decode cX8_topping 0 = .ok (.aload_n 0, 1) := by decide +kernel
theorem dX8_topping_1 : decode cX8_topping 1 = .ok (.iload_n 1, 1) := by decide +kernel
theorem dX8_topping_2 : decode cX8_topping 2 = .ok (.invokevirtual 81, 3) := by decide +kernel
theorem dX8_topping_5 : decode cX8_topping 5 = .ok (.ifCond .ne 6, 3) := by decide +kernel
theorem dX8_topping_8 : decode cX8_topping 8 = .ok (.ldc 76, 2) := by decide +kernel
theorem dX8_topping_10 : decode cX8_topping 10 = .ok (.ireturn, 1) := by decide +kernel
theorem dX8_topping_11 : decode cX8_topping 11 = .ok (.aload_n 0, 1) := by decide +kernel
theorem dX8_topping_12 : decode cX8_topping 12 = .ok (.iload_n 1, 1) := by decide +kernel
theorem dX8_topping_13 : decode cX8_topping 13 = .ok (.invokevirtual 62, 3) := by decide +kernel
theorem dX8_topping_16 : decode cX8_topping 16 = .ok (.aload_n 0, 1) := by decide +kernel
theorem dX8_topping_17 : decode cX8_topping 17 = .ok (.iload_n 1, 1) := by decide +kernel
theorem dX8_topping_18 : decode cX8_topping 18 = .ok (.invokevirtual 85, 3) := by decide +kernel
theorem dX8_topping_21 : decode cX8_topping 21 = .ok (.ifCond .eq 10, 3) := by decide +kernel
theorem dX8_topping_24 : decode cX8_topping 24 = .ok (.aload_n 0, 1) := by decide +kernel
theorem dX8_topping_25 : decode cX8_topping 25 = .ok (.invokevirtual 69, 3) := by decide +kernel
theorem dX8_topping_28 : decode cX8_topping 28 = .ok (.ifCond .ge 6, 3) := by decide +kernel
theorem dX8_topping_31 : decode cX8_topping 31 = .ok (.ldc 91, 2) := by decide +kernel
theorem dX8_topping_33 : decode cX8_topping 33 = .ok (.ireturn, 1) := by decide +kernel
theorem dX8_topping_34 : decode cX8_topping 34 = .ok (.aload_n 0, 1) := by decide +kernel
theorem dX8_topping_35 : decode cX8_topping 35 = .ok (.iload_n 1, 1) := by decide +kernel
theorem dX8_topping_36 : decode cX8_topping 36 = .ok (.aload_n 0, 1) := by decide +kernel
theorem dX8_topping_37 : decode cX8_topping 37 = .ok (.getfield 7, 3) := by decide +kernel
theorem dX8_topping_40 : decode cX8_topping 40 = .ok (.bipush 8, 2) := by decide +kernel
theorem dX8_topping_42 : decode cX8_topping 42 = .ok (.iaload, 1) := by decide +kernel
theorem dX8_topping_43 : decode cX8_topping 43 = .ok (.invokevirtual 66, 3) := by decide +kernel
theorem dX8_topping_46 : decode cX8_topping 46 = .ok (.istore_n 2, 1) := by decide +kernel
theorem dX8_topping_47 : decode cX8_topping 47 = .ok (.aload_n 0, 1) := by decide +kernel
theorem dX8_topping_48 : decode cX8_topping 48 = .ok (.iload_n 1, 1) := by decide +kernel
theorem dX8_topping_49 : decode cX8_topping 49 = .ok (.invokevirtual 62, 3) := by decide +kernel
theorem dX8_topping_52 : decode cX8_topping 52 = .ok (.aload_n 0, 1) := by decide +kernel
theorem dX8_topping_53 : decode cX8_topping 53 = .ok (.invokevirtual 98, 3) := by decide +kernel
theorem dX8_topping_56 : decode cX8_topping 56 = .ok (.aload_n 0, 1) := by decide +kernel
theorem dX8_topping_57 : decode cX8_topping 57 = .ok (.iload_n 1, 1) := by decide +kernel
theorem dX8_topping_58 : decode cX8_topping 58 = .ok (.aload_n 0, 1) := by decide +kernel
theorem dX8_topping_59 : decode cX8_topping 59 = .ok (.getfield 7, 3) := by decide +kernel
theorem dX8_topping_62 : decode cX8_topping 62 = .ok (.bipush 8, 2) := by decide +kernel
theorem dX8_topping_64 : decode cX8_topping 64 = .ok (.iaload, 1) := by decide +kernel
theorem dX8_topping_65 : decode cX8_topping 65 = .ok (.invokevirtual 66, 3) := by decide +kernel
theorem dX8_topping_68 : decode cX8_topping 68 = .ok (.iload_n 2, 1) := by decide +kernel
theorem dX8_topping_69 : decode cX8_topping 69 = .ok (.isub, 1) := by decide +kernel
theorem dX8_topping_70 : decode cX8_topping 70 = .ok (.ireturn, 1) := by decide +kernel
theorem dX8_loser_0 : decode cX8_loser 0 = .ok (.aload_n 0, 1) := by decide +kernel
theorem dX8_loser_1 : decode cX8_loser 1 = .ok (.iload_n 1, 1) := by decide +kernel
theorem dX8_loser_2 : decode cX8_loser 2 = .ok (.invokevirtual 81, 3) := by decide +kernel
theorem dX8_loser_5 : decode cX8_loser 5 = .ok (.ifCond .eq 12, 3) := by decide +kernel
theorem dX8_loser_8 : decode cX8_loser 8 = .ok (.iload_n 2, 1) := by decide +kernel
theorem dX8_loser_9 : decode cX8_loser 9 = .ok (.iconst 0, 1) := by decide +kernel
theorem dX8_loser_10 : decode cX8_loser 10 = .ok (.iconst 1, 1) := by decide +kernel
theorem dX8_loser_11 : decode cX8_loser 11 = .ok (.invokestatic 72, 3) := by decide +kernel
theorem dX8_loser_14 : decode cX8_loser 14 = .ok (.ifCond .ne 6, 3) := by decide +kernel
theorem dX8_loser_17 : decode cX8_loser 17 = .ok (.ldc 76, 2) := by decide +kernel
theorem dX8_loser_19 : decode cX8_loser 19 = .ok (.ireturn, 1) := by decide +kernel
theorem dX8_loser_20 : decode cX8_loser 20 = .ok (.aload_n 0, 1) := by decide +kernel
theorem dX8_loser_21 : decode cX8_loser 21 = .ok (.iload_n 1, 1) := by decide +kernel
theorem dX8_loser_22 : decode cX8_loser 22 = .ok (.invokevirtual 85, 3) := by decide +kernel
theorem dX8_loser_25 : decode cX8_loser 25 = .ok (.ifCond .ne 6, 3) := by decide +kernel
theorem dX8_loser_28 : decode cX8_loser 28 = .ok (.ldc 91, 2) := by decide +kernel
theorem dX8_loser_30 : decode cX8_loser 30 = .ok (.ireturn, 1) := by decide +kernel
theorem dX8_loser_31 : decode cX8_loser 31 = .ok (.aload_n 0, 1) := by decide +kernel
theorem dX8_loser_32 : decode cX8_loser 32 = .ok (.iload_n 1, 1) := by decide +kernel
theorem dX8_loser_33 : decode cX8_loser 33 = .ok (.invokevirtual 62, 3) := by decide +kernel
theorem dX8_loser_36 : decode cX8_loser 36 = .ok (.ldc 57, 2) := by decide +kernel
theorem dX8_loser_38 : decode cX8_loser 38 = .ok (.istore_n 3, 1) := by decide +kernel
theorem dX8_loser_39 : decode cX8_loser 39 = .ok (.iconst 0, 1) := by decide +kernel
theorem dX8_loser_40 : decode cX8_loser 40 = .ok (.istore 4, 2) := by decide +kernel
theorem dX8_loser_42 : decode cX8_loser 42 = .ok (.iconst 0, 1) := by decide +kernel
theorem dX8_loser_43 : decode cX8_loser 43 = .ok (.istore 5, 2) := by decide +kernel
theorem dX8_loser_45 : decode cX8_loser 45 = .ok (.iload 5, 2) := by decide +kernel
theorem dX8_loser_47 : decode cX8_loser 47 = .ok (.aload_n 0, 1) := by decide +kernel
theorem dX8_loser_48 : decode cX8_loser 48 = .ok (.getfield 7, 3) := by decide +kernel
theorem dX8_loser_51 : decode cX8_loser 51 = .ok (.iconst 1, 1) := by decide +kernel
theorem dX8_loser_52 : decode cX8_loser 52 = .ok (.iaload, 1) := by decide +kernel
theorem dX8_loser_53 : decode cX8_loser 53 = .ok (.if_icmp .ge 60, 3) := by decide +kernel
theorem dX8_loser_56 : decode cX8_loser 56 = .ok (.aload_n 0, 1) := by decide +kernel
theorem dX8_loser_57 : decode cX8_loser 57 = .ok (.iload 5, 2) := by decide +kernel
theorem dX8_loser_59 : decode cX8_loser 59 = .ok (.iload_n 1, 1) := by decide +kernel
theorem dX8_loser_60 : decode cX8_loser 60 = .ok (.aload_n 0, 1) := by decide +kernel
theorem dX8_loser_61 : decode cX8_loser 61 = .ok (.invokevirtual 58, 3) := by decide +kernel
theorem dX8_loser_64 : decode cX8_loser 64 = .ok (.bipush 90, 2) := by decide +kernel
theorem dX8_loser_66 : decode cX8_loser 66 = .ok (.idiv, 1) := by decide +kernel
theorem dX8_loser_67 : decode cX8_loser 67 = .ok (.aload_n 0, 1) := by decide +kernel
theorem dX8_loser_68 : decode cX8_loser 68 = .ok (.iload_n 1, 1) := by decide +kernel
theorem dX8_loser_69 : decode cX8_loser 69 = .ok (.invokevirtual 104, 3) := by decide +kernel
theorem dX8_loser_72 : decode cX8_loser 72 = .ok (.invokevirtual 107, 3) := by decide +kernel
theorem dX8_loser_75 : decode cX8_loser 75 = .ok (.istore 6, 2) := by decide +kernel
theorem dX8_loser_77 : decode cX8_loser 77 = .ok (.iload 6, 2) := by decide +kernel
theorem dX8_loser_79 : decode cX8_loser 79 = .ok (.iload 4, 2) := by decide +kernel
theorem dX8_loser_81 : decode cX8_loser 81 = .ok (.if_icmp .le 8, 3) := by decide +kernel
theorem dX8_loser_84 : decode cX8_loser 84 = .ok (.iload 5, 2) := by decide +kernel
theorem dX8_loser_86 : decode cX8_loser 86 = .ok (.goto 4, 3) := by decide +kernel
theorem dX8_loser_89 : decode cX8_loser 89 = .ok (.iload_n 3, 1) := by decide +kernel
theorem dX8_loser_90 : decode cX8_loser 90 = .ok (.istore_n 3, 1) := by decide +kernel
theorem dX8_loser_91 : decode cX8_loser 91 = .ok (.iload 6, 2) := by decide +kernel
theorem dX8_loser_93 : decode cX8_loser 93 = .ok (.iload 4, 2) := by decide +kernel
theorem dX8_loser_95 : decode cX8_loser 95 = .ok (.if_icmp .le 8, 3) := by decide +kernel
theorem dX8_loser_98 : decode cX8_loser 98 = .ok (.iload 6, 2) := by decide +kernel
theorem dX8_loser_100 : decode cX8_loser 100 = .ok (.goto 5, 3) := by decide +kernel
theorem dX8_loser_103 : decode cX8_loser 103 = .ok (.iload 4, 2) := by decide +kernel
theorem dX8_loser_105 : decode cX8_loser 105 = .ok (.istore 4, 2) := by decide +kernel
theorem dX8_loser_107 : decode cX8_loser 107 = .ok (.iinc 5 1, 3) := by decide +kernel
theorem dX8_loser_110 : decode cX8_loser 110 = .ok (.goto (-65), 3) := by decide +kernel
theorem dX8_loser_113 : decode cX8_loser 113 = .ok (.iload_n 3, 1) := by decide +kernel
theorem dX8_loser_114 : decode cX8_loser 114 = .ok (.ifCond .lt 7, 3) := by decide +kernel
theorem dX8_loser_117 : decode cX8_loser 117 = .ok (.iload_n 2, 1) := by decide +kernel
theorem dX8_loser_118 : decode cX8_loser 118 = .ok (.ifCond .ne 7, 3) := by decide +kernel
theorem dX8_loser_121 : decode cX8_loser 121 = .ok (.iload_n 3, 1) := by decide +kernel
theorem dX8_loser_122 : decode cX8_loser 122 = .ok (.goto 5, 3) := by decide +kernel
theorem dX8_loser_125 : decode cX8_loser 125 = .ok (.iload 4, 2) := by decide +kernel
theorem dX8_loser_127 : decode cX8_loser 127 = .ok (.ireturn, 1) := by decide +kernel
theorem dX8_accounts_0 : decode cX8_accounts 0 = .ok (.iconst 0, 1) := by decide +kernel
theorem dX8_accounts_1 : decode cX8_accounts 1 = .ok (.istore_n 1, 1) := by decide +kernel
theorem dX8_accounts_2 : decode cX8_accounts 2 = .ok (.iconst 0, 1) := by decide +kernel
theorem dX8_accounts_3 : decode cX8_accounts 3 = .ok (.istore_n 2, 1) := by decide +kernel
theorem dX8_accounts_4 : decode cX8_accounts 4 = .ok (.iload_n 2, 1) := by decide +kernel
theorem dX8_accounts_5 : decode cX8_accounts 5 = .ok (.bipush 6, 2) := by decide +kernel
theorem dX8_accounts_7 : decode cX8_accounts 7 = .ok (.if_icmp .gt 22, 3) := by decide +kernel
theorem dX8_accounts_10 : decode cX8_accounts 10 = .ok (.iload_n 1, 1) := by decide +kernel
theorem dX8_accounts_11 : decode cX8_accounts 11 = .ok (.aload_n 0, 1) := by decide +kernel
theorem dX8_accounts_12 : decode cX8_accounts 12 = .ok (.getfield 7, 3) := by decide +kernel
theorem dX8_accounts_15 : decode cX8_accounts 15 = .ok (.sipush 129, 3) := by decide +kernel
theorem dX8_accounts_18 : decode cX8_accounts 18 = .ok (.iload_n 2, 1) := by decide +kernel
theorem dX8_accounts_19 : decode cX8_accounts 19 = .ok (.iadd, 1) := by decide +kernel
theorem dX8_accounts_20 : decode cX8_accounts 20 = .ok (.iaload, 1) := by decide +kernel
theorem dX8_accounts_21 : decode cX8_accounts 21 = .ok (.iadd, 1) := by decide +kernel
theorem dX8_accounts_22 : decode cX8_accounts 22 = .ok (.istore_n 1, 1) := by decide +kernel
theorem dX8_accounts_23 : decode cX8_accounts 23 = .ok (.iinc 2 1, 3) := by decide +kernel
theorem dX8_accounts_26 : decode cX8_accounts 26 = .ok (.goto (-22), 3) := by decide +kernel
theorem dX8_accounts_29 : decode cX8_accounts 29 = .ok (.iload_n 1, 1) := by decide +kernel
theorem dX8_accounts_30 : decode cX8_accounts 30 = .ok (.ireturn, 1) := by decide +kernel
theorem dX8_ofLots_0 : decode cX8_ofLots 0 = .ok (.iconst 0, 1) := by decide +kernel
theorem dX8_ofLots_1 : decode cX8_ofLots 1 = .ok (.istore_n 2, 1) := by decide +kernel
theorem dX8_ofLots_2 : decode cX8_ofLots 2 = .ok (.iconst 0, 1) := by decide +kernel
theorem dX8_ofLots_3 : decode cX8_ofLots 3 = .ok (.istore_n 3, 1) := by decide +kernel
theorem dX8_ofLots_4 : decode cX8_ofLots 4 = .ok (.iload_n 3, 1) := by decide +kernel
theorem dX8_ofLots_5 : decode cX8_ofLots 5 = .ok (.aload_n 0, 1) := by decide +kernel
theorem dX8_ofLots_6 : decode cX8_ofLots 6 = .ok (.getfield 7, 3) := by decide +kernel
theorem dX8_ofLots_9 : decode cX8_ofLots 9 = .ok (.iconst 0, 1) := by decide +kernel
theorem dX8_ofLots_10 : decode cX8_ofLots 10 = .ok (.iaload, 1) := by decide +kernel
theorem dX8_ofLots_11 : decode cX8_ofLots 11 = .ok (.if_icmp .ge 33, 3) := by decide +kernel
theorem dX8_ofLots_14 : decode cX8_ofLots 14 = .ok (.aload_n 0, 1) := by decide +kernel
theorem dX8_ofLots_15 : decode cX8_ofLots 15 = .ok (.iload_n 3, 1) := by decide +kernel
theorem dX8_ofLots_16 : decode cX8_ofLots 16 = .ok (.invokevirtual 62, 3) := by decide +kernel
theorem dX8_ofLots_19 : decode cX8_ofLots 19 = .ok (.iload_n 2, 1) := by decide +kernel
theorem dX8_ofLots_20 : decode cX8_ofLots 20 = .ok (.iload_n 1, 1) := by decide +kernel
theorem dX8_ofLots_21 : decode cX8_ofLots 21 = .ok (.ifCond .eq 11, 3) := by decide +kernel
theorem dX8_ofLots_24 : decode cX8_ofLots 24 = .ok (.aload_n 0, 1) := by decide +kernel
theorem dX8_ofLots_25 : decode cX8_ofLots 25 = .ok (.iload_n 3, 1) := by decide +kernel
theorem dX8_ofLots_26 : decode cX8_ofLots 26 = .ok (.invokevirtual 104, 3) := by decide +kernel
theorem dX8_ofLots_29 : decode cX8_ofLots 29 = .ok (.goto 7, 3) := by decide +kernel
theorem dX8_ofLots_32 : decode cX8_ofLots 32 = .ok (.aload_n 0, 1) := by decide +kernel
theorem dX8_ofLots_33 : decode cX8_ofLots 33 = .ok (.invokevirtual 58, 3) := by decide +kernel
theorem dX8_ofLots_36 : decode cX8_ofLots 36 = .ok (.iadd, 1) := by decide +kernel
theorem dX8_ofLots_37 : decode cX8_ofLots 37 = .ok (.istore_n 2, 1) := by decide +kernel
theorem dX8_ofLots_38 : decode cX8_ofLots 38 = .ok (.iinc 3 1, 3) := by decide +kernel
theorem dX8_ofLots_41 : decode cX8_ofLots 41 = .ok (.goto (-37), 3) := by decide +kernel
theorem dX8_ofLots_44 : decode cX8_ofLots 44 = .ok (.iload_n 2, 1) := by decide +kernel
theorem dX8_ofLots_45 : decode cX8_ofLots 45 = .ok (.ireturn, 1) := by decide +kernel
theorem dX8_count_0 : decode cX8_count 0 = .ok (.iload_n 1, 1) := by decide +kernel
theorem dX8_count_1 : decode cX8_count 1 = .ok (.tableswitch 120 0 11 #[63, 63, 63, 70, 75, 91, 75, 98, 98, 98, 110, 115], 63) := by decide +kernel
theorem dX8_count_64 : decode cX8_count 64 = .ok (.aload_n 0, 1) := by decide +kernel
theorem dX8_count_65 : decode cX8_count 65 = .ok (.getfield 7, 3) := by decide +kernel
theorem dX8_count_68 : decode cX8_count 68 = .ok (.iload_n 1, 1) := by decide +kernel
theorem dX8_count_69 : decode cX8_count 69 = .ok (.iaload, 1) := by decide +kernel
theorem dX8_count_70 : decode cX8_count 70 = .ok (.ireturn, 1) := by decide +kernel
theorem dX8_count_71 : decode cX8_count 71 = .ok (.aload_n 0, 1) := by decide +kernel
theorem dX8_count_72 : decode cX8_count 72 = .ok (.invokevirtual 141, 3) := by decide +kernel
theorem dX8_count_75 : decode cX8_count 75 = .ok (.ireturn, 1) := by decide +kernel
theorem dX8_count_76 : decode cX8_count 76 = .ok (.aload_n 0, 1) := by decide +kernel
theorem dX8_count_77 : decode cX8_count 77 = .ok (.iload_n 1, 1) := by decide +kernel
theorem dX8_count_78 : decode cX8_count 78 = .ok (.bipush 6, 2) := by decide +kernel
theorem dX8_count_80 : decode cX8_count 80 = .ok (.if_icmp .ne 7, 3) := by decide +kernel
theorem dX8_count_83 : decode cX8_count 83 = .ok (.iconst 1, 1) := by decide +kernel
theorem dX8_count_84 : decode cX8_count 84 = .ok (.goto 4, 3) := by decide +kernel
theorem dX8_count_87 : decode cX8_count 87 = .ok (.iconst 0, 1) := by decide +kernel
theorem dX8_count_88 : decode cX8_count 88 = .ok (.invokevirtual 144, 3) := by decide +kernel
theorem dX8_count_91 : decode cX8_count 91 = .ok (.ireturn, 1) := by decide +kernel
theorem dX8_count_92 : decode cX8_count 92 = .ok (.aload_n 0, 1) := by decide +kernel
theorem dX8_count_93 : decode cX8_count 93 = .ok (.getfield 7, 3) := by decide +kernel
theorem dX8_count_96 : decode cX8_count 96 = .ok (.iconst 3, 1) := by decide +kernel
theorem dX8_count_97 : decode cX8_count 97 = .ok (.iaload, 1) := by decide +kernel
theorem dX8_count_98 : decode cX8_count 98 = .ok (.ireturn, 1) := by decide +kernel
theorem dX8_count_99 : decode cX8_count 99 = .ok (.aload_n 0, 1) := by decide +kernel
theorem dX8_count_100 : decode cX8_count 100 = .ok (.getfield 7, 3) := by decide +kernel
theorem dX8_count_103 : decode cX8_count 103 = .ok (.iconst 4, 1) := by decide +kernel
theorem dX8_count_104 : decode cX8_count 104 = .ok (.iload_n 1, 1) := by decide +kernel
theorem dX8_count_105 : decode cX8_count 105 = .ok (.iadd, 1) := by decide +kernel
theorem dX8_count_106 : decode cX8_count 106 = .ok (.bipush 7, 2) := by decide +kernel
theorem dX8_count_108 : decode cX8_count 108 = .ok (.isub, 1) := by decide +kernel
theorem dX8_count_109 : decode cX8_count 109 = .ok (.iaload, 1) := by decide +kernel
theorem dX8_count_110 : decode cX8_count 110 = .ok (.ireturn, 1) := by decide +kernel
theorem dX8_count_111 : decode cX8_count 111 = .ok (.aload_n 0, 1) := by decide +kernel
theorem dX8_count_112 : decode cX8_count 112 = .ok (.getfield 32, 3) := by decide +kernel
theorem dX8_count_115 : decode cX8_count 115 = .ok (.ireturn, 1) := by decide +kernel
theorem dX8_count_116 : decode cX8_count 116 = .ok (.aload_n 0, 1) := by decide +kernel
theorem dX8_count_117 : decode cX8_count 117 = .ok (.getfield 148, 3) := by decide +kernel
theorem dX8_count_120 : decode cX8_count 120 = .ok (.ireturn, 1) := by decide +kernel
theorem dX8_count_121 : decode cX8_count 121 = .ok (.iload_n 1, 1) := by decide +kernel
theorem dX8_count_122 : decode cX8_count 122 = .ok (.bipush 20, 2) := by decide +kernel
theorem dX8_count_124 : decode cX8_count 124 = .ok (.bipush 21, 2) := by decide +kernel
theorem dX8_count_126 : decode cX8_count 126 = .ok (.invokestatic 72, 3) := by decide +kernel
theorem dX8_count_129 : decode cX8_count 129 = .ok (.ifCond .eq 18, 3) := by decide +kernel
theorem dX8_count_132 : decode cX8_count 132 = .ok (.aload_n 0, 1) := by decide +kernel
theorem dX8_count_133 : decode cX8_count 133 = .ok (.getfield 7, 3) := by decide +kernel
theorem dX8_count_136 : decode cX8_count 136 = .ok (.bipush 7, 2) := by decide +kernel
theorem dX8_count_138 : decode cX8_count 138 = .ok (.iload_n 1, 1) := by decide +kernel
theorem dX8_count_139 : decode cX8_count 139 = .ok (.iadd, 1) := by decide +kernel
theorem dX8_count_140 : decode cX8_count 140 = .ok (.bipush 20, 2) := by decide +kernel
theorem dX8_count_142 : decode cX8_count 142 = .ok (.isub, 1) := by decide +kernel
theorem dX8_count_143 : decode cX8_count 143 = .ok (.iaload, 1) := by decide +kernel
theorem dX8_count_144 : decode cX8_count 144 = .ok (.goto 5, 3) := by decide +kernel
theorem dX8_count_147 : decode cX8_count 147 = .ok (.ldc 76, 2) := by decide +kernel
theorem dX8_count_149 : decode cX8_count 149 = .ok (.ireturn, 1) := by decide +kernel
theorem dX8_undo_0 : decode cX8_undo 0 = .ok (.aload_n 0, 1) := by decide +kernel
theorem dX8_undo_1 : decode cX8_undo 1 = .ok (.getfield 32, 3) := by decide +kernel
theorem dX8_undo_4 : decode cX8_undo 4 = .ok (.ifCond .ne 6, 3) := by decide +kernel
theorem dX8_undo_7 : decode cX8_undo 7 = .ok (.ldc 91, 2) := by decide +kernel
theorem dX8_undo_9 : decode cX8_undo 9 = .ok (.ireturn, 1) := by decide +kernel
theorem dX8_undo_10 : decode cX8_undo 10 = .ok (.aload_n 0, 1) := by decide +kernel
theorem dX8_undo_11 : decode cX8_undo 11 = .ok (.dup, 1) := by decide +kernel
theorem dX8_undo_12 : decode cX8_undo 12 = .ok (.getfield 32, 3) := by decide +kernel
theorem dX8_undo_15 : decode cX8_undo 15 = .ok (.iconst 1, 1) := by decide +kernel
theorem dX8_undo_16 : decode cX8_undo 16 = .ok (.isub, 1) := by decide +kernel
theorem dX8_undo_17 : decode cX8_undo 17 = .ok (.putfield 32, 3) := by decide +kernel
theorem dX8_undo_20 : decode cX8_undo 20 = .ok (.iconst 0, 1) := by decide +kernel
theorem dX8_undo_21 : decode cX8_undo 21 = .ok (.istore_n 1, 1) := by decide +kernel
theorem dX8_undo_22 : decode cX8_undo 22 = .ok (.iload_n 1, 1) := by decide +kernel
theorem dX8_undo_23 : decode cX8_undo 23 = .ok (.sipush 316, 3) := by decide +kernel
theorem dX8_undo_26 : decode cX8_undo 26 = .ok (.if_icmp .ge 30, 3) := by decide +kernel
theorem dX8_undo_29 : decode cX8_undo 29 = .ok (.aload_n 0, 1) := by decide +kernel
theorem dX8_undo_30 : decode cX8_undo 30 = .ok (.getfield 7, 3) := by decide +kernel
theorem dX8_undo_33 : decode cX8_undo 33 = .ok (.iload_n 1, 1) := by decide +kernel
theorem dX8_undo_34 : decode cX8_undo 34 = .ok (.aload_n 0, 1) := by decide +kernel
theorem dX8_undo_35 : decode cX8_undo 35 = .ok (.getfield 13, 3) := by decide +kernel
theorem dX8_undo_38 : decode cX8_undo 38 = .ok (.sipush 316, 3) := by decide +kernel
theorem dX8_undo_41 : decode cX8_undo 41 = .ok (.aload_n 0, 1) := by decide +kernel
theorem dX8_undo_42 : decode cX8_undo 42 = .ok (.getfield 32, 3) := by decide +kernel
theorem dX8_undo_45 : decode cX8_undo 45 = .ok (.imul, 1) := by decide +kernel
theorem dX8_undo_46 : decode cX8_undo 46 = .ok (.iload_n 1, 1) := by decide +kernel
theorem dX8_undo_47 : decode cX8_undo 47 = .ok (.iadd, 1) := by decide +kernel
theorem dX8_undo_48 : decode cX8_undo 48 = .ok (.iaload, 1) := by decide +kernel
theorem dX8_undo_49 : decode cX8_undo 49 = .ok (.iastore, 1) := by decide +kernel
theorem dX8_undo_50 : decode cX8_undo 50 = .ok (.iinc 1 1, 3) := by decide +kernel
theorem dX8_undo_53 : decode cX8_undo 53 = .ok (.goto (-31), 3) := by decide +kernel
theorem dX8_undo_56 : decode cX8_undo 56 = .ok (.aload_n 0, 1) := by decide +kernel
theorem dX8_undo_57 : decode cX8_undo 57 = .ok (.getfield 32, 3) := by decide +kernel
theorem dX8_undo_60 : decode cX8_undo 60 = .ok (.ireturn, 1) := by decide +kernel
theorem dX8_type_0 : decode cX8_type 0 = .ok (.iload_n 1, 1) := by decide +kernel
theorem dX8_type_1 : decode cX8_type 1 = .ok (.bipush 32, 2) := by decide +kernel
theorem dX8_type_3 : decode cX8_type 3 = .ok (.bipush 126, 2) := by decide +kernel
theorem dX8_type_5 : decode cX8_type 5 = .ok (.invokestatic 72, 3) := by decide +kernel
theorem dX8_type_8 : decode cX8_type 8 = .ok (.ifCond .ne 6, 3) := by decide +kernel
theorem dX8_type_11 : decode cX8_type 11 = .ok (.ldc 76, 2) := by decide +kernel
theorem dX8_type_13 : decode cX8_type 13 = .ok (.ireturn, 1) := by decide +kernel
theorem dX8_type_14 : decode cX8_type 14 = .ok (.aload_n 0, 1) := by decide +kernel
theorem dX8_type_15 : decode cX8_type 15 = .ok (.getfield 148, 3) := by decide +kernel
theorem dX8_type_18 : decode cX8_type 18 = .ok (.bipush 60, 2) := by decide +kernel
theorem dX8_type_20 : decode cX8_type 20 = .ok (.if_icmp .ne 6, 3) := by decide +kernel
theorem dX8_type_23 : decode cX8_type 23 = .ok (.ldc 77, 2) := by decide +kernel
theorem dX8_type_25 : decode cX8_type 25 = .ok (.ireturn, 1) := by decide +kernel
theorem dX8_type_26 : decode cX8_type 26 = .ok (.aload_n 0, 1) := by decide +kernel
theorem dX8_type_27 : decode cX8_type 27 = .ok (.getfield 19, 3) := by decide +kernel
theorem dX8_type_30 : decode cX8_type 30 = .ok (.aload_n 0, 1) := by decide +kernel
theorem dX8_type_31 : decode cX8_type 31 = .ok (.getfield 148, 3) := by decide +kernel
theorem dX8_type_34 : decode cX8_type 34 = .ok (.iload_n 1, 1) := by decide +kernel
theorem dX8_type_35 : decode cX8_type 35 = .ok (.iastore, 1) := by decide +kernel
theorem dX8_type_36 : decode cX8_type 36 = .ok (.aload_n 0, 1) := by decide +kernel
theorem dX8_type_37 : decode cX8_type 37 = .ok (.dup, 1) := by decide +kernel
theorem dX8_type_38 : decode cX8_type 38 = .ok (.getfield 148, 3) := by decide +kernel
theorem dX8_type_41 : decode cX8_type 41 = .ok (.iconst 1, 1) := by decide +kernel
theorem dX8_type_42 : decode cX8_type 42 = .ok (.iadd, 1) := by decide +kernel
theorem dX8_type_43 : decode cX8_type 43 = .ok (.putfield 148, 3) := by decide +kernel
theorem dX8_type_46 : decode cX8_type 46 = .ok (.aload_n 0, 1) := by decide +kernel
theorem dX8_type_47 : decode cX8_type 47 = .ok (.getfield 148, 3) := by decide +kernel
theorem dX8_type_50 : decode cX8_type 50 = .ok (.ireturn, 1) := by decide +kernel
theorem dX8_clearText_0 : decode cX8_clearText 0 = .ok (.aload_n 0, 1) := by decide +kernel
theorem dX8_clearText_1 : decode cX8_clearText 1 = .ok (.getfield 148, 3) := by decide +kernel
theorem dX8_clearText_4 : decode cX8_clearText 4 = .ok (.istore_n 1, 1) := by decide +kernel
theorem dX8_clearText_5 : decode cX8_clearText 5 = .ok (.aload_n 0, 1) := by decide +kernel
theorem dX8_clearText_6 : decode cX8_clearText 6 = .ok (.iconst 0, 1) := by decide +kernel
theorem dX8_clearText_7 : decode cX8_clearText 7 = .ok (.putfield 148, 3) := by decide +kernel
theorem dX8_clearText_10 : decode cX8_clearText 10 = .ok (.iload_n 1, 1) := by decide +kernel
theorem dX8_clearText_11 : decode cX8_clearText 11 = .ok (.ireturn, 1) := by decide +kernel
theorem dX8_isAt_0 : decode cX8_isAt 0 = .ok (.aload_n 0, 1) := by decide +kernel
theorem dX8_isAt_1 : decode cX8_isAt 1 = .ok (.getfield 151, 3) := by decide +kernel
theorem dX8_isAt_4 : decode cX8_isAt 4 = .ok (.aload_n 0, 1) := by decide +kernel
theorem dX8_isAt_5 : decode cX8_isAt 5 = .ok (.getfield 148, 3) := by decide +kernel
theorem dX8_isAt_8 : decode cX8_isAt 8 = .ok (.if_icmp .ge 24, 3) := by decide +kernel
theorem dX8_isAt_11 : decode cX8_isAt 11 = .ok (.aload_n 0, 1) := by decide +kernel
theorem dX8_isAt_12 : decode cX8_isAt 12 = .ok (.getfield 19, 3) := by decide +kernel
theorem dX8_isAt_15 : decode cX8_isAt 15 = .ok (.aload_n 0, 1) := by decide +kernel
theorem dX8_isAt_16 : decode cX8_isAt 16 = .ok (.getfield 151, 3) := by decide +kernel
theorem dX8_isAt_19 : decode cX8_isAt 19 = .ok (.iaload, 1) := by decide +kernel
theorem dX8_isAt_20 : decode cX8_isAt 20 = .ok (.iload_n 1, 1) := by decide +kernel
theorem dX8_isAt_21 : decode cX8_isAt 21 = .ok (.iload_n 2, 1) := by decide +kernel
theorem dX8_isAt_22 : decode cX8_isAt 22 = .ok (.invokestatic 72, 3) := by decide +kernel
theorem dX8_isAt_25 : decode cX8_isAt 25 = .ok (.ifCond .eq 7, 3) := by decide +kernel
theorem dX8_isAt_28 : decode cX8_isAt 28 = .ok (.iconst 1, 1) := by decide +kernel
theorem dX8_isAt_29 : decode cX8_isAt 29 = .ok (.goto 4, 3) := by decide +kernel
theorem dX8_isAt_32 : decode cX8_isAt 32 = .ok (.iconst 0, 1) := by decide +kernel
theorem dX8_isAt_33 : decode cX8_isAt 33 = .ok (.ireturn, 1) := by decide +kernel
theorem dX8_sign_0 : decode cX8_sign 0 = .ok (.aload_n 0, 1) := by decide +kernel
theorem dX8_sign_1 : decode cX8_sign 1 = .ok (.iload_n 1, 1) := by decide +kernel
theorem dX8_sign_2 : decode cX8_sign 2 = .ok (.iload_n 1, 1) := by decide +kernel
theorem dX8_sign_3 : decode cX8_sign 3 = .ok (.invokevirtual 154, 3) := by decide +kernel
theorem dX8_sign_6 : decode cX8_sign 6 = .ok (.istore_n 2, 1) := by decide +kernel
theorem dX8_sign_7 : decode cX8_sign 7 = .ok (.aload_n 0, 1) := by decide +kernel
theorem dX8_sign_8 : decode cX8_sign 8 = .ok (.dup, 1) := by decide +kernel
theorem dX8_sign_9 : decode cX8_sign 9 = .ok (.getfield 151, 3) := by decide +kernel
theorem dX8_sign_12 : decode cX8_sign 12 = .ok (.iload_n 2, 1) := by decide +kernel
theorem dX8_sign_13 : decode cX8_sign 13 = .ok (.ifCond .eq 7, 3) := by decide +kernel
theorem dX8_sign_16 : decode cX8_sign 16 = .ok (.iconst 1, 1) := by decide +kernel
theorem dX8_sign_17 : decode cX8_sign 17 = .ok (.goto 4, 3) := by decide +kernel
theorem dX8_sign_20 : decode cX8_sign 20 = .ok (.iconst 0, 1) := by decide +kernel
theorem dX8_sign_21 : decode cX8_sign 21 = .ok (.iadd, 1) := by decide +kernel
theorem dX8_sign_22 : decode cX8_sign 22 = .ok (.putfield 151, 3) := by decide +kernel
theorem dX8_sign_25 : decode cX8_sign 25 = .ok (.iload_n 2, 1) := by decide +kernel
theorem dX8_sign_26 : decode cX8_sign 26 = .ok (.ireturn, 1) := by decide +kernel
theorem dX8_number_0 : decode cX8_number 0 = .ok (.aload_n 0, 1) := by decide +kernel
theorem dX8_number_1 : decode cX8_number 1 = .ok (.getfield 151, 3) := by decide +kernel
theorem dX8_number_4 : decode cX8_number 4 = .ok (.istore_n 2, 1) := by decide +kernel
theorem dX8_number_5 : decode cX8_number 5 = .ok (.aload_n 0, 1) := by decide +kernel
theorem dX8_number_6 : decode cX8_number 6 = .ok (.getfield 25, 3) := by decide +kernel
theorem dX8_number_9 : decode cX8_number 9 = .ok (.iload_n 1, 1) := by decide +kernel
theorem dX8_number_10 : decode cX8_number 10 = .ok (.iconst 0, 1) := by decide +kernel
theorem dX8_number_11 : decode cX8_number 11 = .ok (.iastore, 1) := by decide +kernel
theorem dX8_number_12 : decode cX8_number 12 = .ok (.aload_n 0, 1) := by decide +kernel
theorem dX8_number_13 : decode cX8_number 13 = .ok (.bipush 48, 2) := by decide +kernel
theorem dX8_number_15 : decode cX8_number 15 = .ok (.bipush 57, 2) := by decide +kernel
theorem dX8_number_17 : decode cX8_number 17 = .ok (.invokevirtual 154, 3) := by decide +kernel
theorem dX8_number_20 : decode cX8_number 20 = .ok (.ifCond .eq 54, 3) := by decide +kernel
theorem dX8_number_23 : decode cX8_number 23 = .ok (.aload_n 0, 1) := by decide +kernel
theorem dX8_number_24 : decode cX8_number 24 = .ok (.getfield 151, 3) := by decide +kernel
theorem dX8_number_27 : decode cX8_number 27 = .ok (.iload_n 2, 1) := by decide +kernel
theorem dX8_number_28 : decode cX8_number 28 = .ok (.isub, 1) := by decide +kernel
theorem dX8_number_29 : decode cX8_number 29 = .ok (.iconst 3, 1) := by decide +kernel
theorem dX8_number_30 : decode cX8_number 30 = .ok (.if_icmp .ge 44, 3) := by decide +kernel
theorem dX8_number_33 : decode cX8_number 33 = .ok (.aload_n 0, 1) := by decide +kernel
theorem dX8_number_34 : decode cX8_number 34 = .ok (.getfield 25, 3) := by decide +kernel
theorem dX8_number_37 : decode cX8_number 37 = .ok (.iload_n 1, 1) := by decide +kernel
theorem dX8_number_38 : decode cX8_number 38 = .ok (.bipush 10, 2) := by decide +kernel
theorem dX8_number_40 : decode cX8_number 40 = .ok (.aload_n 0, 1) := by decide +kernel
theorem dX8_number_41 : decode cX8_number 41 = .ok (.getfield 25, 3) := by decide +kernel
theorem dX8_number_44 : decode cX8_number 44 = .ok (.iload_n 1, 1) := by decide +kernel
theorem dX8_number_45 : decode cX8_number 45 = .ok (.iaload, 1) := by decide +kernel
theorem dX8_number_46 : decode cX8_number 46 = .ok (.imul, 1) := by decide +kernel
theorem dX8_number_47 : decode cX8_number 47 = .ok (.aload_n 0, 1) := by decide +kernel
theorem dX8_number_48 : decode cX8_number 48 = .ok (.getfield 19, 3) := by decide +kernel
theorem dX8_number_51 : decode cX8_number 51 = .ok (.aload_n 0, 1) := by decide +kernel
theorem dX8_number_52 : decode cX8_number 52 = .ok (.getfield 151, 3) := by decide +kernel
theorem dX8_number_55 : decode cX8_number 55 = .ok (.iaload, 1) := by decide +kernel
theorem dX8_number_56 : decode cX8_number 56 = .ok (.iadd, 1) := by decide +kernel
theorem dX8_number_57 : decode cX8_number 57 = .ok (.bipush 48, 2) := by decide +kernel
theorem dX8_number_59 : decode cX8_number 59 = .ok (.isub, 1) := by decide +kernel
theorem dX8_number_60 : decode cX8_number 60 = .ok (.iastore, 1) := by decide +kernel
theorem dX8_number_61 : decode cX8_number 61 = .ok (.aload_n 0, 1) := by decide +kernel
theorem dX8_number_62 : decode cX8_number 62 = .ok (.dup, 1) := by decide +kernel
theorem dX8_number_63 : decode cX8_number 63 = .ok (.getfield 151, 3) := by decide +kernel
theorem dX8_number_66 : decode cX8_number 66 = .ok (.iconst 1, 1) := by decide +kernel
theorem dX8_number_67 : decode cX8_number 67 = .ok (.iadd, 1) := by decide +kernel
theorem dX8_number_68 : decode cX8_number 68 = .ok (.putfield 151, 3) := by decide +kernel
theorem dX8_number_71 : decode cX8_number 71 = .ok (.goto (-59), 3) := by decide +kernel
theorem dX8_number_74 : decode cX8_number 74 = .ok (.aload_n 0, 1) := by decide +kernel
theorem dX8_number_75 : decode cX8_number 75 = .ok (.getfield 151, 3) := by decide +kernel
theorem dX8_number_78 : decode cX8_number 78 = .ok (.iload_n 2, 1) := by decide +kernel
theorem dX8_number_79 : decode cX8_number 79 = .ok (.if_icmp .le 7, 3) := by decide +kernel
theorem dX8_number_82 : decode cX8_number 82 = .ok (.iconst 1, 1) := by decide +kernel
theorem dX8_number_83 : decode cX8_number 83 = .ok (.goto 4, 3) := by decide +kernel
theorem dX8_number_86 : decode cX8_number 86 = .ok (.iconst 0, 1) := by decide +kernel
theorem dX8_number_87 : decode cX8_number 87 = .ok (.ireturn, 1) := by decide +kernel
theorem dX8_numbersOf_0 : decode cX8_numbersOf 0 = .ok (.iload_n 0, 1) := by decide +kernel
theorem dX8_numbersOf_1 : decode cX8_numbersOf 1 = .ok (.bipush 115, 2) := by decide +kernel
theorem dX8_numbersOf_3 : decode cX8_numbersOf 3 = .ok (.if_icmp .ne 7, 3) := by decide +kernel
theorem dX8_numbersOf_6 : decode cX8_numbersOf 6 = .ok (.iconst 4, 1) := by decide +kernel
theorem dX8_numbersOf_7 : decode cX8_numbersOf 7 = .ok (.goto 36, 3) := by decide +kernel
theorem dX8_numbersOf_10 : decode cX8_numbersOf 10 = .ok (.iload_n 0, 1) := by decide +kernel
theorem dX8_numbersOf_11 : decode cX8_numbersOf 11 = .ok (.bipush 108, 2) := by decide +kernel
theorem dX8_numbersOf_13 : decode cX8_numbersOf 13 = .ok (.if_icmp .eq 9, 3) := by decide +kernel
theorem dX8_numbersOf_16 : decode cX8_numbersOf 16 = .ok (.iload_n 0, 1) := by decide +kernel
theorem dX8_numbersOf_17 : decode cX8_numbersOf 17 = .ok (.bipush 116, 2) := by decide +kernel
theorem dX8_numbersOf_19 : decode cX8_numbersOf 19 = .ok (.if_icmp .ne 7, 3) := by decide +kernel
theorem dX8_numbersOf_22 : decode cX8_numbersOf 22 = .ok (.iconst 2, 1) := by decide +kernel
theorem dX8_numbersOf_23 : decode cX8_numbersOf 23 = .ok (.goto 20, 3) := by decide +kernel
theorem dX8_numbersOf_26 : decode cX8_numbersOf 26 = .ok (.iload_n 0, 1) := by decide +kernel
theorem dX8_numbersOf_27 : decode cX8_numbersOf 27 = .ok (.bipush 109, 2) := by decide +kernel
theorem dX8_numbersOf_29 : decode cX8_numbersOf 29 = .ok (.if_icmp .eq 9, 3) := by decide +kernel
theorem dX8_numbersOf_32 : decode cX8_numbersOf 32 = .ok (.iload_n 0, 1) := by decide +kernel
theorem dX8_numbersOf_33 : decode cX8_numbersOf 33 = .ok (.bipush 98, 2) := by decide +kernel
theorem dX8_numbersOf_35 : decode cX8_numbersOf 35 = .ok (.if_icmp .ne 7, 3) := by decide +kernel
theorem dX8_numbersOf_38 : decode cX8_numbersOf 38 = .ok (.iconst 1, 1) := by decide +kernel
theorem dX8_numbersOf_39 : decode cX8_numbersOf 39 = .ok (.goto 4, 3) := by decide +kernel
theorem dX8_numbersOf_42 : decode cX8_numbersOf 42 = .ok (.iconst 0, 1) := by decide +kernel
theorem dX8_numbersOf_43 : decode cX8_numbersOf 43 = .ok (.ireturn, 1) := by decide +kernel
theorem dX8_reads_0 : decode cX8_reads 0 = .ok (.aload_n 0, 1) := by decide +kernel
theorem dX8_reads_1 : decode cX8_reads 1 = .ok (.aload_n 0, 1) := by decide +kernel
theorem dX8_reads_2 : decode cX8_reads 2 = .ok (.bipush 33, 2) := by decide +kernel
theorem dX8_reads_4 : decode cX8_reads 4 = .ok (.bipush 126, 2) := by decide +kernel
theorem dX8_reads_6 : decode cX8_reads 6 = .ok (.invokevirtual 154, 3) := by decide +kernel
theorem dX8_reads_9 : decode cX8_reads 9 = .ok (.ifCond .eq 15, 3) := by decide +kernel
theorem dX8_reads_12 : decode cX8_reads 12 = .ok (.aload_n 0, 1) := by decide +kernel
theorem dX8_reads_13 : decode cX8_reads 13 = .ok (.getfield 19, 3) := by decide +kernel
theorem dX8_reads_16 : decode cX8_reads 16 = .ok (.aload_n 0, 1) := by decide +kernel
theorem dX8_reads_17 : decode cX8_reads 17 = .ok (.getfield 151, 3) := by decide +kernel
theorem dX8_reads_20 : decode cX8_reads 20 = .ok (.iaload, 1) := by decide +kernel
theorem dX8_reads_21 : decode cX8_reads 21 = .ok (.goto 4, 3) := by decide +kernel
theorem dX8_reads_24 : decode cX8_reads 24 = .ok (.iconst 0, 1) := by decide +kernel
theorem dX8_reads_25 : decode cX8_reads 25 = .ok (.putfield 157, 3) := by decide +kernel
theorem dX8_reads_28 : decode cX8_reads 28 = .ok (.aload_n 0, 1) := by decide +kernel
theorem dX8_reads_29 : decode cX8_reads 29 = .ok (.getfield 157, 3) := by decide +kernel
theorem dX8_reads_32 : decode cX8_reads 32 = .ok (.invokestatic 160, 3) := by decide +kernel
theorem dX8_reads_35 : decode cX8_reads 35 = .ok (.istore_n 1, 1) := by decide +kernel
theorem dX8_reads_36 : decode cX8_reads 36 = .ok (.iload_n 1, 1) := by decide +kernel
theorem dX8_reads_37 : decode cX8_reads 37 = .ok (.ifCond .ne 5, 3) := by decide +kernel
theorem dX8_reads_40 : decode cX8_reads 40 = .ok (.iconst 0, 1) := by decide +kernel
theorem dX8_reads_41 : decode cX8_reads 41 = .ok (.ireturn, 1) := by decide +kernel
theorem dX8_reads_42 : decode cX8_reads 42 = .ok (.aload_n 0, 1) := by decide +kernel
theorem dX8_reads_43 : decode cX8_reads 43 = .ok (.dup, 1) := by decide +kernel
theorem dX8_reads_44 : decode cX8_reads 44 = .ok (.getfield 151, 3) := by decide +kernel
theorem dX8_reads_47 : decode cX8_reads 47 = .ok (.iconst 1, 1) := by decide +kernel
theorem dX8_reads_48 : decode cX8_reads 48 = .ok (.iadd, 1) := by decide +kernel
theorem dX8_reads_49 : decode cX8_reads 49 = .ok (.putfield 151, 3) := by decide +kernel
theorem dX8_reads_52 : decode cX8_reads 52 = .ok (.aload_n 0, 1) := by decide +kernel
theorem dX8_reads_53 : decode cX8_reads 53 = .ok (.iconst 0, 1) := by decide +kernel
theorem dX8_reads_54 : decode cX8_reads 54 = .ok (.invokevirtual 163, 3) := by decide +kernel
theorem dX8_reads_57 : decode cX8_reads 57 = .ok (.istore_n 2, 1) := by decide +kernel
theorem dX8_reads_58 : decode cX8_reads 58 = .ok (.iconst 1, 1) := by decide +kernel
theorem dX8_reads_59 : decode cX8_reads 59 = .ok (.istore_n 3, 1) := by decide +kernel
theorem dX8_reads_60 : decode cX8_reads 60 = .ok (.iload_n 3, 1) := by decide +kernel
theorem dX8_reads_61 : decode cX8_reads 61 = .ok (.iload_n 1, 1) := by decide +kernel
theorem dX8_reads_62 : decode cX8_reads 62 = .ok (.if_icmp .ge 36, 3) := by decide +kernel
theorem dX8_reads_65 : decode cX8_reads 65 = .ok (.iload_n 2, 1) := by decide +kernel
theorem dX8_reads_66 : decode cX8_reads 66 = .ok (.ifCond .eq 32, 3) := by decide +kernel
theorem dX8_reads_69 : decode cX8_reads 69 = .ok (.aload_n 0, 1) := by decide +kernel
theorem dX8_reads_70 : decode cX8_reads 70 = .ok (.bipush 44, 2) := by decide +kernel
theorem dX8_reads_72 : decode cX8_reads 72 = .ok (.invokevirtual 166, 3) := by decide +kernel
theorem dX8_reads_75 : decode cX8_reads 75 = .ok (.ifCond .eq 15, 3) := by decide +kernel
theorem dX8_reads_78 : decode cX8_reads 78 = .ok (.aload_n 0, 1) := by decide +kernel
theorem dX8_reads_79 : decode cX8_reads 79 = .ok (.iload_n 3, 1) := by decide +kernel
theorem dX8_reads_80 : decode cX8_reads 80 = .ok (.invokevirtual 163, 3) := by decide +kernel
theorem dX8_reads_83 : decode cX8_reads 83 = .ok (.ifCond .eq 7, 3) := by decide +kernel
theorem dX8_reads_86 : decode cX8_reads 86 = .ok (.iconst 1, 1) := by decide +kernel
theorem dX8_reads_87 : decode cX8_reads 87 = .ok (.goto 4, 3) := by decide +kernel
theorem dX8_reads_90 : decode cX8_reads 90 = .ok (.iconst 0, 1) := by decide +kernel
theorem dX8_reads_91 : decode cX8_reads 91 = .ok (.istore_n 2, 1) := by decide +kernel
theorem dX8_reads_92 : decode cX8_reads 92 = .ok (.iinc 3 1, 3) := by decide +kernel
theorem dX8_reads_95 : decode cX8_reads 95 = .ok (.goto (-35), 3) := by decide +kernel
theorem dX8_reads_98 : decode cX8_reads 98 = .ok (.iload_n 2, 1) := by decide +kernel
theorem dX8_reads_99 : decode cX8_reads 99 = .ok (.ifCond .eq 16, 3) := by decide +kernel
theorem dX8_reads_102 : decode cX8_reads 102 = .ok (.aload_n 0, 1) := by decide +kernel
theorem dX8_reads_103 : decode cX8_reads 103 = .ok (.bipush 59, 2) := by decide +kernel
theorem dX8_reads_105 : decode cX8_reads 105 = .ok (.invokevirtual 166, 3) := by decide +kernel
theorem dX8_reads_108 : decode cX8_reads 108 = .ok (.ifCond .eq 7, 3) := by decide +kernel
theorem dX8_reads_111 : decode cX8_reads 111 = .ok (.iconst 1, 1) := by decide +kernel
theorem dX8_reads_112 : decode cX8_reads 112 = .ok (.goto 4, 3) := by decide +kernel
theorem dX8_reads_115 : decode cX8_reads 115 = .ok (.iconst 0, 1) := by decide +kernel
theorem dX8_reads_116 : decode cX8_reads 116 = .ok (.ireturn, 1) := by decide +kernel
theorem dX8_calls_0 : decode cX8_calls 0 = .ok (.aload_n 0, 1) := by decide +kernel
theorem dX8_calls_1 : decode cX8_calls 1 = .ok (.getfield 157, 3) := by decide +kernel
theorem dX8_calls_4 : decode cX8_calls 4 = .ok (.tableswitch 126 108 116 #[52, 115, 126, 126, 126, 126, 126, 69, 98], 52) := by decide +kernel
theorem dX8_calls_56 : decode cX8_calls 56 = .ok (.aload_n 0, 1) := by decide +kernel
theorem dX8_calls_57 : decode cX8_calls 57 = .ok (.aload_n 0, 1) := by decide +kernel
theorem dX8_calls_58 : decode cX8_calls 58 = .ok (.getfield 25, 3) := by decide +kernel
theorem dX8_calls_61 : decode cX8_calls 61 = .ok (.iconst 0, 1) := by decide +kernel
theorem dX8_calls_62 : decode cX8_calls 62 = .ok (.iaload, 1) := by decide +kernel
theorem dX8_calls_63 : decode cX8_calls 63 = .ok (.aload_n 0, 1) := by decide +kernel
theorem dX8_calls_64 : decode cX8_calls 64 = .ok (.getfield 25, 3) := by decide +kernel
theorem dX8_calls_67 : decode cX8_calls 67 = .ok (.iconst 1, 1) := by decide +kernel
theorem dX8_calls_68 : decode cX8_calls 68 = .ok (.iaload, 1) := by decide +kernel
theorem dX8_calls_69 : decode cX8_calls 69 = .ok (.invokevirtual 169, 3) := by decide +kernel
theorem dX8_calls_72 : decode cX8_calls 72 = .ok (.ireturn, 1) := by decide +kernel
theorem dX8_calls_73 : decode cX8_calls 73 = .ok (.aload_n 0, 1) := by decide +kernel
theorem dX8_calls_74 : decode cX8_calls 74 = .ok (.aload_n 0, 1) := by decide +kernel
theorem dX8_calls_75 : decode cX8_calls 75 = .ok (.getfield 25, 3) := by decide +kernel
theorem dX8_calls_78 : decode cX8_calls 78 = .ok (.iconst 0, 1) := by decide +kernel
theorem dX8_calls_79 : decode cX8_calls 79 = .ok (.iaload, 1) := by decide +kernel
theorem dX8_calls_80 : decode cX8_calls 80 = .ok (.aload_n 0, 1) := by decide +kernel
theorem dX8_calls_81 : decode cX8_calls 81 = .ok (.getfield 25, 3) := by decide +kernel
theorem dX8_calls_84 : decode cX8_calls 84 = .ok (.iconst 1, 1) := by decide +kernel
theorem dX8_calls_85 : decode cX8_calls 85 = .ok (.iaload, 1) := by decide +kernel
theorem dX8_calls_86 : decode cX8_calls 86 = .ok (.aload_n 0, 1) := by decide +kernel
theorem dX8_calls_87 : decode cX8_calls 87 = .ok (.getfield 25, 3) := by decide +kernel
theorem dX8_calls_90 : decode cX8_calls 90 = .ok (.iconst 2, 1) := by decide +kernel
theorem dX8_calls_91 : decode cX8_calls 91 = .ok (.iaload, 1) := by decide +kernel
theorem dX8_calls_92 : decode cX8_calls 92 = .ok (.aload_n 0, 1) := by decide +kernel
theorem dX8_calls_93 : decode cX8_calls 93 = .ok (.getfield 25, 3) := by decide +kernel
theorem dX8_calls_96 : decode cX8_calls 96 = .ok (.iconst 3, 1) := by decide +kernel
theorem dX8_calls_97 : decode cX8_calls 97 = .ok (.iaload, 1) := by decide +kernel
theorem dX8_calls_98 : decode cX8_calls 98 = .ok (.invokevirtual 172, 3) := by decide +kernel
theorem dX8_calls_101 : decode cX8_calls 101 = .ok (.ireturn, 1) := by decide +kernel
theorem dX8_calls_102 : decode cX8_calls 102 = .ok (.aload_n 0, 1) := by decide +kernel
theorem dX8_calls_103 : decode cX8_calls 103 = .ok (.aload_n 0, 1) := by decide +kernel
theorem dX8_calls_104 : decode cX8_calls 104 = .ok (.getfield 25, 3) := by decide +kernel
theorem dX8_calls_107 : decode cX8_calls 107 = .ok (.iconst 0, 1) := by decide +kernel
theorem dX8_calls_108 : decode cX8_calls 108 = .ok (.iaload, 1) := by decide +kernel
theorem dX8_calls_109 : decode cX8_calls 109 = .ok (.aload_n 0, 1) := by decide +kernel
theorem dX8_calls_110 : decode cX8_calls 110 = .ok (.getfield 25, 3) := by decide +kernel
theorem dX8_calls_113 : decode cX8_calls 113 = .ok (.iconst 1, 1) := by decide +kernel
theorem dX8_calls_114 : decode cX8_calls 114 = .ok (.iaload, 1) := by decide +kernel
theorem dX8_calls_115 : decode cX8_calls 115 = .ok (.invokevirtual 175, 3) := by decide +kernel
theorem dX8_calls_118 : decode cX8_calls 118 = .ok (.ireturn, 1) := by decide +kernel
theorem dX8_calls_119 : decode cX8_calls 119 = .ok (.aload_n 0, 1) := by decide +kernel
theorem dX8_calls_120 : decode cX8_calls 120 = .ok (.aload_n 0, 1) := by decide +kernel
theorem dX8_calls_121 : decode cX8_calls 121 = .ok (.getfield 25, 3) := by decide +kernel
theorem dX8_calls_124 : decode cX8_calls 124 = .ok (.iconst 0, 1) := by decide +kernel
theorem dX8_calls_125 : decode cX8_calls 125 = .ok (.iaload, 1) := by decide +kernel
theorem dX8_calls_126 : decode cX8_calls 126 = .ok (.invokevirtual 178, 3) := by decide +kernel
theorem dX8_calls_129 : decode cX8_calls 129 = .ok (.ireturn, 1) := by decide +kernel
theorem dX8_calls_130 : decode cX8_calls 130 = .ok (.aload_n 0, 1) := by decide +kernel
theorem dX8_calls_131 : decode cX8_calls 131 = .ok (.aload_n 0, 1) := by decide +kernel
theorem dX8_calls_132 : decode cX8_calls 132 = .ok (.getfield 25, 3) := by decide +kernel
theorem dX8_calls_135 : decode cX8_calls 135 = .ok (.iconst 0, 1) := by decide +kernel
theorem dX8_calls_136 : decode cX8_calls 136 = .ok (.iaload, 1) := by decide +kernel
theorem dX8_calls_137 : decode cX8_calls 137 = .ok (.invokevirtual 181, 3) := by decide +kernel
theorem dX8_calls_140 : decode cX8_calls 140 = .ok (.ireturn, 1) := by decide +kernel
theorem dX8_plays_0 : decode cX8_plays 0 = .ok (.aload_n 0, 1) := by decide +kernel
theorem dX8_plays_1 : decode cX8_plays 1 = .ok (.iconst 1, 1) := by decide +kernel
theorem dX8_plays_2 : decode cX8_plays 2 = .ok (.putfield 28, 3) := by decide +kernel
theorem dX8_plays_5 : decode cX8_plays 5 = .ok (.aload_n 0, 1) := by decide +kernel
theorem dX8_plays_6 : decode cX8_plays 6 = .ok (.iconst 0, 1) := by decide +kernel
theorem dX8_plays_7 : decode cX8_plays 7 = .ok (.putfield 151, 3) := by decide +kernel
theorem dX8_plays_10 : decode cX8_plays 10 = .ok (.aload_n 0, 1) := by decide +kernel
theorem dX8_plays_11 : decode cX8_plays 11 = .ok (.iconst 0, 1) := by decide +kernel
theorem dX8_plays_12 : decode cX8_plays 12 = .ok (.putfield 184, 3) := by decide +kernel
theorem dX8_plays_15 : decode cX8_plays 15 = .ok (.aload_n 0, 1) := by decide +kernel
theorem dX8_plays_16 : decode cX8_plays 16 = .ok (.iconst 0, 1) := by decide +kernel
theorem dX8_plays_17 : decode cX8_plays 17 = .ok (.putfield 187, 3) := by decide +kernel
theorem dX8_plays_20 : decode cX8_plays 20 = .ok (.iconst 1, 1) := by decide +kernel
theorem dX8_plays_21 : decode cX8_plays 21 = .ok (.istore_n 1, 1) := by decide +kernel
theorem dX8_plays_22 : decode cX8_plays 22 = .ok (.aload_n 0, 1) := by decide +kernel
theorem dX8_plays_23 : decode cX8_plays 23 = .ok (.getfield 151, 3) := by decide +kernel
theorem dX8_plays_26 : decode cX8_plays 26 = .ok (.aload_n 0, 1) := by decide +kernel
theorem dX8_plays_27 : decode cX8_plays 27 = .ok (.getfield 148, 3) := by decide +kernel
theorem dX8_plays_30 : decode cX8_plays 30 = .ok (.if_icmp .ge 94, 3) := by decide +kernel
theorem dX8_plays_33 : decode cX8_plays 33 = .ok (.iload_n 1, 1) := by decide +kernel
theorem dX8_plays_34 : decode cX8_plays 34 = .ok (.ifCond .eq 90, 3) := by decide +kernel
theorem dX8_plays_37 : decode cX8_plays 37 = .ok (.aload_n 0, 1) := by decide +kernel
theorem dX8_plays_38 : decode cX8_plays 38 = .ok (.aload_n 0, 1) := by decide +kernel
theorem dX8_plays_39 : decode cX8_plays 39 = .ok (.getfield 151, 3) := by decide +kernel
theorem dX8_plays_42 : decode cX8_plays 42 = .ok (.putfield 184, 3) := by decide +kernel
theorem dX8_plays_45 : decode cX8_plays 45 = .ok (.aload_n 0, 1) := by decide +kernel
theorem dX8_plays_46 : decode cX8_plays 46 = .ok (.invokevirtual 190, 3) := by decide +kernel
theorem dX8_plays_49 : decode cX8_plays 49 = .ok (.istore_n 2, 1) := by decide +kernel
theorem dX8_plays_50 : decode cX8_plays 50 = .ok (.iload_n 2, 1) := by decide +kernel
theorem dX8_plays_51 : decode cX8_plays 51 = .ok (.ifCond .eq 10, 3) := by decide +kernel
theorem dX8_plays_54 : decode cX8_plays 54 = .ok (.aload_n 0, 1) := by decide +kernel
theorem dX8_plays_55 : decode cX8_plays 55 = .ok (.invokevirtual 194, 3) := by decide +kernel
theorem dX8_plays_58 : decode cX8_plays 58 = .ok (.goto 4, 3) := by decide +kernel
theorem dX8_plays_61 : decode cX8_plays 61 = .ok (.iconst 0, 1) := by decide +kernel
theorem dX8_plays_62 : decode cX8_plays 62 = .ok (.istore_n 3, 1) := by decide +kernel
theorem dX8_plays_63 : decode cX8_plays 63 = .ok (.iload_n 2, 1) := by decide +kernel
theorem dX8_plays_64 : decode cX8_plays 64 = .ok (.ifCond .eq 11, 3) := by decide +kernel
theorem dX8_plays_67 : decode cX8_plays 67 = .ok (.iload_n 3, 1) := by decide +kernel
theorem dX8_plays_68 : decode cX8_plays 68 = .ok (.ifCond .lt 7, 3) := by decide +kernel
theorem dX8_plays_71 : decode cX8_plays 71 = .ok (.iconst 1, 1) := by decide +kernel
theorem dX8_plays_72 : decode cX8_plays 72 = .ok (.goto 4, 3) := by decide +kernel
theorem dX8_plays_75 : decode cX8_plays 75 = .ok (.iconst 0, 1) := by decide +kernel
theorem dX8_plays_76 : decode cX8_plays 76 = .ok (.istore_n 1, 1) := by decide +kernel
theorem dX8_plays_77 : decode cX8_plays 77 = .ok (.aload_n 0, 1) := by decide +kernel
theorem dX8_plays_78 : decode cX8_plays 78 = .ok (.iload_n 2, 1) := by decide +kernel
theorem dX8_plays_79 : decode cX8_plays 79 = .ok (.ifCond .eq 7, 3) := by decide +kernel
theorem dX8_plays_82 : decode cX8_plays 82 = .ok (.iconst 2, 1) := by decide +kernel
theorem dX8_plays_83 : decode cX8_plays 83 = .ok (.goto 4, 3) := by decide +kernel
theorem dX8_plays_86 : decode cX8_plays 86 = .ok (.iconst 1, 1) := by decide +kernel
theorem dX8_plays_87 : decode cX8_plays 87 = .ok (.putfield 197, 3) := by decide +kernel
theorem dX8_plays_90 : decode cX8_plays 90 = .ok (.aload_n 0, 1) := by decide +kernel
theorem dX8_plays_91 : decode cX8_plays 91 = .ok (.iload_n 2, 1) := by decide +kernel
theorem dX8_plays_92 : decode cX8_plays 92 = .ok (.ifCond .eq 7, 3) := by decide +kernel
theorem dX8_plays_95 : decode cX8_plays 95 = .ok (.iload_n 3, 1) := by decide +kernel
theorem dX8_plays_96 : decode cX8_plays 96 = .ok (.goto 12, 3) := by decide +kernel
theorem dX8_plays_99 : decode cX8_plays 99 = .ok (.aload_n 0, 1) := by decide +kernel
theorem dX8_plays_100 : decode cX8_plays 100 = .ok (.getfield 151, 3) := by decide +kernel
theorem dX8_plays_103 : decode cX8_plays 103 = .ok (.aload_n 0, 1) := by decide +kernel
theorem dX8_plays_104 : decode cX8_plays 104 = .ok (.getfield 184, 3) := by decide +kernel
theorem dX8_plays_107 : decode cX8_plays 107 = .ok (.isub, 1) := by decide +kernel
theorem dX8_plays_108 : decode cX8_plays 108 = .ok (.putfield 200, 3) := by decide +kernel
theorem dX8_plays_111 : decode cX8_plays 111 = .ok (.aload_n 0, 1) := by decide +kernel
theorem dX8_plays_112 : decode cX8_plays 112 = .ok (.dup, 1) := by decide +kernel
theorem dX8_plays_113 : decode cX8_plays 113 = .ok (.getfield 187, 3) := by decide +kernel
theorem dX8_plays_116 : decode cX8_plays 116 = .ok (.iconst 1, 1) := by decide +kernel
theorem dX8_plays_117 : decode cX8_plays 117 = .ok (.iadd, 1) := by decide +kernel
theorem dX8_plays_118 : decode cX8_plays 118 = .ok (.putfield 187, 3) := by decide +kernel
theorem dX8_plays_121 : decode cX8_plays 121 = .ok (.goto (-99), 3) := by decide +kernel
theorem dX8_plays_124 : decode cX8_plays 124 = .ok (.aload_n 0, 1) := by decide +kernel
theorem dX8_plays_125 : decode cX8_plays 125 = .ok (.iconst 0, 1) := by decide +kernel
theorem dX8_plays_126 : decode cX8_plays 126 = .ok (.putfield 28, 3) := by decide +kernel
theorem dX8_plays_129 : decode cX8_plays 129 = .ok (.iload_n 1, 1) := by decide +kernel
theorem dX8_plays_130 : decode cX8_plays 130 = .ok (.ireturn, 1) := by decide +kernel
theorem dX8_fault_0 : decode cX8_fault 0 = .ok (.iload_n 1, 1) := by decide +kernel
theorem dX8_fault_1 : decode cX8_fault 1 = .ok (.iconst 0, 1) := by decide +kernel
theorem dX8_fault_2 : decode cX8_fault 2 = .ok (.iconst 2, 1) := by decide +kernel
theorem dX8_fault_3 : decode cX8_fault 3 = .ok (.invokestatic 72, 3) := by decide +kernel
theorem dX8_fault_6 : decode cX8_fault 6 = .ok (.ifCond .ne 6, 3) := by decide +kernel
theorem dX8_fault_9 : decode cX8_fault 9 = .ok (.ldc 76, 2) := by decide +kernel
theorem dX8_fault_11 : decode cX8_fault 11 = .ok (.ireturn, 1) := by decide +kernel
theorem dX8_fault_12 : decode cX8_fault 12 = .ok (.aload_n 0, 1) := by decide +kernel
theorem dX8_fault_13 : decode cX8_fault 13 = .ok (.getfield 7, 3) := by decide +kernel
theorem dX8_fault_16 : decode cX8_fault 16 = .ok (.aload_n 0, 1) := by decide +kernel
theorem dX8_fault_17 : decode cX8_fault 17 = .ok (.getfield 16, 3) := by decide +kernel
theorem dX8_fault_20 : decode cX8_fault 20 = .ok (.invokestatic 203, 3) := by decide +kernel
theorem dX8_fault_23 : decode cX8_fault 23 = .ok (.aload_n 0, 1) := by decide +kernel
theorem dX8_fault_24 : decode cX8_fault 24 = .ok (.invokevirtual 207, 3) := by decide +kernel
theorem dX8_fault_27 : decode cX8_fault 27 = .ok (.istore_n 2, 1) := by decide +kernel
theorem dX8_fault_28 : decode cX8_fault 28 = .ok (.aload_n 0, 1) := by decide +kernel
theorem dX8_fault_29 : decode cX8_fault 29 = .ok (.getfield 16, 3) := by decide +kernel
theorem dX8_fault_32 : decode cX8_fault 32 = .ok (.aload_n 0, 1) := by decide +kernel
theorem dX8_fault_33 : decode cX8_fault 33 = .ok (.getfield 7, 3) := by decide +kernel
theorem dX8_fault_36 : decode cX8_fault 36 = .ok (.invokestatic 203, 3) := by decide +kernel
theorem dX8_fault_39 : decode cX8_fault 39 = .ok (.iload_n 2, 1) := by decide +kernel
theorem dX8_fault_40 : decode cX8_fault 40 = .ok (.ifCond .eq 8, 3) := by decide +kernel
theorem dX8_fault_43 : decode cX8_fault 43 = .ok (.ldc 57, 2) := by decide +kernel
theorem dX8_fault_45 : decode cX8_fault 45 = .ok (.goto 30, 3) := by decide +kernel
theorem dX8_fault_48 : decode cX8_fault 48 = .ok (.iload_n 1, 1) := by decide +kernel
theorem dX8_fault_49 : decode cX8_fault 49 = .ok (.ifCond .ne 10, 3) := by decide +kernel
theorem dX8_fault_52 : decode cX8_fault 52 = .ok (.aload_n 0, 1) := by decide +kernel
theorem dX8_fault_53 : decode cX8_fault 53 = .ok (.getfield 184, 3) := by decide +kernel
theorem dX8_fault_56 : decode cX8_fault 56 = .ok (.goto 19, 3) := by decide +kernel
theorem dX8_fault_59 : decode cX8_fault 59 = .ok (.iload_n 1, 1) := by decide +kernel
theorem dX8_fault_60 : decode cX8_fault 60 = .ok (.iconst 1, 1) := by decide +kernel
theorem dX8_fault_61 : decode cX8_fault 61 = .ok (.if_icmp .ne 10, 3) := by decide +kernel
theorem dX8_fault_64 : decode cX8_fault 64 = .ok (.aload_n 0, 1) := by decide +kernel
theorem dX8_fault_65 : decode cX8_fault 65 = .ok (.getfield 197, 3) := by decide +kernel
theorem dX8_fault_68 : decode cX8_fault 68 = .ok (.goto 7, 3) := by decide +kernel
theorem dX8_fault_71 : decode cX8_fault 71 = .ok (.aload_n 0, 1) := by decide +kernel
theorem dX8_fault_72 : decode cX8_fault 72 = .ok (.getfield 200, 3) := by decide +kernel
theorem dX8_fault_75 : decode cX8_fault 75 = .ok (.ireturn, 1) := by decide +kernel
theorem dX8_play_0 : decode cX8_play 0 = .ok (.aload_n 0, 1) := by decide +kernel
theorem dX8_play_1 : decode cX8_play 1 = .ok (.getfield 7, 3) := by decide +kernel
theorem dX8_play_4 : decode cX8_play 4 = .ok (.aload_n 0, 1) := by decide +kernel
theorem dX8_play_5 : decode cX8_play 5 = .ok (.getfield 16, 3) := by decide +kernel
theorem dX8_play_8 : decode cX8_play 8 = .ok (.invokestatic 203, 3) := by decide +kernel
theorem dX8_play_11 : decode cX8_play 11 = .ok (.aload_n 0, 1) := by decide +kernel
theorem dX8_play_12 : decode cX8_play 12 = .ok (.invokevirtual 207, 3) := by decide +kernel
theorem dX8_play_15 : decode cX8_play 15 = .ok (.istore_n 1, 1) := by decide +kernel
theorem dX8_play_16 : decode cX8_play 16 = .ok (.aload_n 0, 1) := by decide +kernel
theorem dX8_play_17 : decode cX8_play 17 = .ok (.getfield 16, 3) := by decide +kernel
theorem dX8_play_20 : decode cX8_play 20 = .ok (.aload_n 0, 1) := by decide +kernel
theorem dX8_play_21 : decode cX8_play 21 = .ok (.getfield 7, 3) := by decide +kernel
theorem dX8_play_24 : decode cX8_play 24 = .ok (.invokestatic 203, 3) := by decide +kernel
theorem dX8_play_27 : decode cX8_play 27 = .ok (.iload_n 1, 1) := by decide +kernel
theorem dX8_play_28 : decode cX8_play 28 = .ok (.ifCond .ne 6, 3) := by decide +kernel
theorem dX8_play_31 : decode cX8_play 31 = .ok (.ldc 91, 2) := by decide +kernel
theorem dX8_play_33 : decode cX8_play 33 = .ok (.ireturn, 1) := by decide +kernel
theorem dX8_play_34 : decode cX8_play 34 = .ok (.aload_n 0, 1) := by decide +kernel
theorem dX8_play_35 : decode cX8_play 35 = .ok (.invokevirtual 78, 3) := by decide +kernel
theorem dX8_play_38 : decode cX8_play 38 = .ok (.aload_n 0, 1) := by decide +kernel
theorem dX8_play_39 : decode cX8_play 39 = .ok (.invokevirtual 207, 3) := by decide +kernel
theorem dX8_play_42 : decode cX8_play 42 = .ok (.ifCond .eq 10, 3) := by decide +kernel
theorem dX8_play_45 : decode cX8_play 45 = .ok (.aload_n 0, 1) := by decide +kernel
theorem dX8_play_46 : decode cX8_play 46 = .ok (.getfield 187, 3) := by decide +kernel
theorem dX8_play_49 : decode cX8_play 49 = .ok (.goto 5, 3) := by decide +kernel
theorem dX8_play_52 : decode cX8_play 52 = .ok (.ldc 57, 2) := by decide +kernel
theorem dX8_play_54 : decode cX8_play 54 = .ok (.ireturn, 1) := by decide +kernel
theorem dJxf58ca_isNaN_12338_0 : decode cJxf58ca_isNaN_12338 0 = .ok (.fload_n 0, 1) := by decide +kernel
theorem dJxf58ca_isNaN_12338_1 : decode cJxf58ca_isNaN_12338 1 = .ok (.fload_n 0, 1) := by decide +kernel
theorem dJxf58ca_isNaN_12338_2 : decode cJxf58ca_isNaN_12338 2 = .ok (.fcmp .l, 1) := by decide +kernel
theorem dJxf58ca_isNaN_12338_3 : decode cJxf58ca_isNaN_12338 3 = .ok (.ifCond .eq 7, 3) := by decide +kernel
theorem dJxf58ca_isNaN_12338_6 : decode cJxf58ca_isNaN_12338 6 = .ok (.iconst 1, 1) := by decide +kernel
theorem dJxf58ca_isNaN_12338_7 : decode cJxf58ca_isNaN_12338 7 = .ok (.goto 4, 3) := by decide +kernel
theorem dJxf58ca_isNaN_12338_10 : decode cJxf58ca_isNaN_12338 10 = .ok (.iconst 0, 1) := by decide +kernel
theorem dJxf58ca_isNaN_12338_11 : decode cJxf58ca_isNaN_12338 11 = .ok (.ireturn, 1) := by decide +kernel
theorem dJxf58ca_floatToIntBits_5c35a_0 : decode cJxf58ca_floatToIntBits_5c35a 0 = .ok (.fload_n 0, 1) := by decide +kernel
theorem dJxf58ca_floatToIntBits_5c35a_1 : decode cJxf58ca_floatToIntBits_5c35a 1 = .ok (.invokestatic 59, 3) := by decide +kernel
theorem dJxf58ca_floatToIntBits_5c35a_4 : decode cJxf58ca_floatToIntBits_5c35a 4 = .ok (.ifCond .ne 8, 3) := by decide +kernel
theorem dJxf58ca_floatToIntBits_5c35a_7 : decode cJxf58ca_floatToIntBits_5c35a 7 = .ok (.fload_n 0, 1) := by decide +kernel
theorem dJxf58ca_floatToIntBits_5c35a_8 : decode cJxf58ca_floatToIntBits_5c35a 8 = .ok (.invokestatic 74, 3) := by decide +kernel
theorem dJxf58ca_floatToIntBits_5c35a_11 : decode cJxf58ca_floatToIntBits_5c35a 11 = .ok (.ireturn, 1) := by decide +kernel
theorem dJxf58ca_floatToIntBits_5c35a_12 : decode cJxf58ca_floatToIntBits_5c35a 12 = .ok (.ldc 77, 2) := by decide +kernel
theorem dJxf58ca_floatToIntBits_5c35a_14 : decode cJxf58ca_floatToIntBits_5c35a 14 = .ok (.ireturn, 1) := by decide +kernel
theorem dJ9_max_7cf53_0 : decode cJ9_max_7cf53 0 = .ok (.iload_n 0, 1) := by decide +kernel
theorem dJ9_max_7cf53_1 : decode cJ9_max_7cf53 1 = .ok (.iload_n 1, 1) := by decide +kernel
theorem dJ9_max_7cf53_2 : decode cJ9_max_7cf53 2 = .ok (.if_icmp .lt 7, 3) := by decide +kernel
theorem dJ9_max_7cf53_5 : decode cJ9_max_7cf53 5 = .ok (.iload_n 0, 1) := by decide +kernel
theorem dJ9_max_7cf53_6 : decode cJ9_max_7cf53 6 = .ok (.goto 4, 3) := by decide +kernel
theorem dJ9_max_7cf53_9 : decode cJ9_max_7cf53 9 = .ok (.iload_n 1, 1) := by decide +kernel
theorem dJ9_max_7cf53_10 : decode cJ9_max_7cf53 10 = .ok (.ireturn, 1) := by decide +kernel
theorem dJ9_min_7cf53_0 : decode cJ9_min_7cf53 0 = .ok (.iload_n 0, 1) := by decide +kernel
theorem dJ9_min_7cf53_1 : decode cJ9_min_7cf53 1 = .ok (.iload_n 1, 1) := by decide +kernel
theorem dJ9_min_7cf53_2 : decode cJ9_min_7cf53 2 = .ok (.if_icmp .gt 7, 3) := by decide +kernel
theorem dJ9_min_7cf53_5 : decode cJ9_min_7cf53 5 = .ok (.iload_n 0, 1) := by decide +kernel
theorem dJ9_min_7cf53_6 : decode cJ9_min_7cf53 6 = .ok (.goto 4, 3) := by decide +kernel
theorem dJ9_min_7cf53_9 : decode cJ9_min_7cf53 9 = .ok (.iload_n 1, 1) := by decide +kernel
theorem dJ9_min_7cf53_10 : decode cJ9_min_7cf53 10 = .ok (.ireturn, 1) := by decide +kernel
theorem dL_law_0 : decode cL_law 0 = .ok (.new 7, 3) := by decide +kernel
theorem dL_law_3 : decode cL_law 3 = .ok (.dup, 1) := by decide +kernel
theorem dL_law_4 : decode cL_law 4 = .ok (.invokespecial 9, 3) := by decide +kernel
theorem dL_law_7 : decode cL_law 7 = .ok (.astore_n 1, 1) := by decide +kernel
theorem dL_law_8 : decode cL_law 8 = .ok (.new 10, 3) := by decide +kernel
theorem dL_law_11 : decode cL_law 11 = .ok (.dup, 1) := by decide +kernel
theorem dL_law_12 : decode cL_law 12 = .ok (.invokespecial 12, 3) := by decide +kernel
theorem dL_law_15 : decode cL_law 15 = .ok (.astore_n 2, 1) := by decide +kernel
theorem dL_law_16 : decode cL_law 16 = .ok (.iconst 0, 1) := by decide +kernel
theorem dL_law_17 : decode cL_law 17 = .ok (.istore_n 3, 1) := by decide +kernel
theorem dL_law_18 : decode cL_law 18 = .ok (.iload_n 3, 1) := by decide +kernel
theorem dL_law_19 : decode cL_law 19 = .ok (.aload_n 0, 1) := by decide +kernel
theorem dL_law_20 : decode cL_law 20 = .ok (.arraylength, 1) := by decide +kernel
theorem dL_law_21 : decode cL_law 21 = .ok (.bipush 6, 2) := by decide +kernel
theorem dL_law_23 : decode cL_law 23 = .ok (.isub, 1) := by decide +kernel
theorem dL_law_24 : decode cL_law 24 = .ok (.if_icmp .gt 882, 3) := by decide +kernel
theorem dL_law_27 : decode cL_law 27 = .ok (.aload_n 0, 1) := by decide +kernel
theorem dL_law_28 : decode cL_law 28 = .ok (.iload_n 3, 1) := by decide +kernel
theorem dL_law_29 : decode cL_law 29 = .ok (.iaload, 1) := by decide +kernel
theorem dL_law_30 : decode cL_law 30 = .ok (.bipush 31, 2) := by decide +kernel
theorem dL_law_32 : decode cL_law 32 = .ok (.iand, 1) := by decide +kernel
theorem dL_law_33 : decode cL_law 33 = .ok (.tableswitch 867 0 25 #[119, 152, 185, 208, 231, 254, 267, 320, 383, 426, 459, 492, 525, 568, 591, 624, 657, 680, 703, 726, 759, 782, 795, 818, 831, 854], 119) := by decide +kernel
theorem dL_law_152 : decode cL_law 152 = .ok (.aload_n 1, 1) := by decide +kernel
theorem dL_law_153 : decode cL_law 153 = .ok (.aload_n 0, 1) := by decide +kernel
theorem dL_law_154 : decode cL_law 154 = .ok (.iload_n 3, 1) := by decide +kernel
theorem dL_law_155 : decode cL_law 155 = .ok (.iconst 1, 1) := by decide +kernel
theorem dL_law_156 : decode cL_law 156 = .ok (.iadd, 1) := by decide +kernel
theorem dL_law_157 : decode cL_law 157 = .ok (.iaload, 1) := by decide +kernel
theorem dL_law_158 : decode cL_law 158 = .ok (.aload_n 0, 1) := by decide +kernel
theorem dL_law_159 : decode cL_law 159 = .ok (.iload_n 3, 1) := by decide +kernel
theorem dL_law_160 : decode cL_law 160 = .ok (.iconst 2, 1) := by decide +kernel
theorem dL_law_161 : decode cL_law 161 = .ok (.iadd, 1) := by decide +kernel
theorem dL_law_162 : decode cL_law 162 = .ok (.iaload, 1) := by decide +kernel
theorem dL_law_163 : decode cL_law 163 = .ok (.invokevirtual 13, 3) := by decide +kernel
theorem dL_law_166 : decode cL_law 166 = .ok (.aload_n 2, 1) := by decide +kernel
theorem dL_law_167 : decode cL_law 167 = .ok (.aload_n 0, 1) := by decide +kernel
theorem dL_law_168 : decode cL_law 168 = .ok (.iload_n 3, 1) := by decide +kernel
theorem dL_law_169 : decode cL_law 169 = .ok (.iconst 1, 1) := by decide +kernel
theorem dL_law_170 : decode cL_law 170 = .ok (.iadd, 1) := by decide +kernel
theorem dL_law_171 : decode cL_law 171 = .ok (.iaload, 1) := by decide +kernel
theorem dL_law_172 : decode cL_law 172 = .ok (.aload_n 0, 1) := by decide +kernel
theorem dL_law_173 : decode cL_law 173 = .ok (.iload_n 3, 1) := by decide +kernel
theorem dL_law_174 : decode cL_law 174 = .ok (.iconst 2, 1) := by decide +kernel
theorem dL_law_175 : decode cL_law 175 = .ok (.iadd, 1) := by decide +kernel
theorem dL_law_176 : decode cL_law 176 = .ok (.iaload, 1) := by decide +kernel
theorem dL_law_177 : decode cL_law 177 = .ok (.invokevirtual 17, 3) := by decide +kernel
theorem dL_law_180 : decode cL_law 180 = .ok (.if_icmp .eq 720, 3) := by decide +kernel
theorem dL_law_183 : decode cL_law 183 = .ok (.iconst 0, 1) := by decide +kernel
theorem dL_law_184 : decode cL_law 184 = .ok (.ireturn, 1) := by decide +kernel
theorem dL_law_185 : decode cL_law 185 = .ok (.aload_n 1, 1) := by decide +kernel
theorem dL_law_186 : decode cL_law 186 = .ok (.aload_n 0, 1) := by decide +kernel
theorem dL_law_187 : decode cL_law 187 = .ok (.iload_n 3, 1) := by decide +kernel
theorem dL_law_188 : decode cL_law 188 = .ok (.iconst 1, 1) := by decide +kernel
theorem dL_law_189 : decode cL_law 189 = .ok (.iadd, 1) := by decide +kernel
theorem dL_law_190 : decode cL_law 190 = .ok (.iaload, 1) := by decide +kernel
theorem dL_law_191 : decode cL_law 191 = .ok (.aload_n 0, 1) := by decide +kernel
theorem dL_law_192 : decode cL_law 192 = .ok (.iload_n 3, 1) := by decide +kernel
theorem dL_law_193 : decode cL_law 193 = .ok (.iconst 2, 1) := by decide +kernel
theorem dL_law_194 : decode cL_law 194 = .ok (.iadd, 1) := by decide +kernel
theorem dL_law_195 : decode cL_law 195 = .ok (.iaload, 1) := by decide +kernel
theorem dL_law_196 : decode cL_law 196 = .ok (.invokevirtual 18, 3) := by decide +kernel
theorem dL_law_199 : decode cL_law 199 = .ok (.aload_n 2, 1) := by decide +kernel
theorem dL_law_200 : decode cL_law 200 = .ok (.aload_n 0, 1) := by decide +kernel
theorem dL_law_201 : decode cL_law 201 = .ok (.iload_n 3, 1) := by decide +kernel
theorem dL_law_202 : decode cL_law 202 = .ok (.iconst 1, 1) := by decide +kernel
theorem dL_law_203 : decode cL_law 203 = .ok (.iadd, 1) := by decide +kernel
theorem dL_law_204 : decode cL_law 204 = .ok (.iaload, 1) := by decide +kernel
theorem dL_law_205 : decode cL_law 205 = .ok (.aload_n 0, 1) := by decide +kernel
theorem dL_law_206 : decode cL_law 206 = .ok (.iload_n 3, 1) := by decide +kernel
theorem dL_law_207 : decode cL_law 207 = .ok (.iconst 2, 1) := by decide +kernel
theorem dL_law_208 : decode cL_law 208 = .ok (.iadd, 1) := by decide +kernel
theorem dL_law_209 : decode cL_law 209 = .ok (.iaload, 1) := by decide +kernel
theorem dL_law_210 : decode cL_law 210 = .ok (.invokevirtual 21, 3) := by decide +kernel
theorem dL_law_213 : decode cL_law 213 = .ok (.if_icmp .eq 687, 3) := by decide +kernel
theorem dL_law_216 : decode cL_law 216 = .ok (.iconst 0, 1) := by decide +kernel
theorem dL_law_217 : decode cL_law 217 = .ok (.ireturn, 1) := by decide +kernel
theorem dL_law_218 : decode cL_law 218 = .ok (.aload_n 1, 1) := by decide +kernel
theorem dL_law_219 : decode cL_law 219 = .ok (.aload_n 0, 1) := by decide +kernel
theorem dL_law_220 : decode cL_law 220 = .ok (.iload_n 3, 1) := by decide +kernel
theorem dL_law_221 : decode cL_law 221 = .ok (.iconst 1, 1) := by decide +kernel
theorem dL_law_222 : decode cL_law 222 = .ok (.iadd, 1) := by decide +kernel
theorem dL_law_223 : decode cL_law 223 = .ok (.iaload, 1) := by decide +kernel
theorem dL_law_224 : decode cL_law 224 = .ok (.invokevirtual 22, 3) := by decide +kernel
theorem dL_law_227 : decode cL_law 227 = .ok (.aload_n 2, 1) := by decide +kernel
theorem dL_law_228 : decode cL_law 228 = .ok (.aload_n 0, 1) := by decide +kernel
theorem dL_law_229 : decode cL_law 229 = .ok (.iload_n 3, 1) := by decide +kernel
theorem dL_law_230 : decode cL_law 230 = .ok (.iconst 1, 1) := by decide +kernel
theorem dL_law_231 : decode cL_law 231 = .ok (.iadd, 1) := by decide +kernel
theorem dL_law_232 : decode cL_law 232 = .ok (.iaload, 1) := by decide +kernel
theorem dL_law_233 : decode cL_law 233 = .ok (.invokevirtual 26, 3) := by decide +kernel
theorem dL_law_236 : decode cL_law 236 = .ok (.if_icmp .eq 664, 3) := by decide +kernel
theorem dL_law_239 : decode cL_law 239 = .ok (.iconst 0, 1) := by decide +kernel
theorem dL_law_240 : decode cL_law 240 = .ok (.ireturn, 1) := by decide +kernel
theorem dL_law_241 : decode cL_law 241 = .ok (.aload_n 1, 1) := by decide +kernel
theorem dL_law_242 : decode cL_law 242 = .ok (.aload_n 0, 1) := by decide +kernel
theorem dL_law_243 : decode cL_law 243 = .ok (.iload_n 3, 1) := by decide +kernel
theorem dL_law_244 : decode cL_law 244 = .ok (.iconst 1, 1) := by decide +kernel
theorem dL_law_245 : decode cL_law 245 = .ok (.iadd, 1) := by decide +kernel
theorem dL_law_246 : decode cL_law 246 = .ok (.iaload, 1) := by decide +kernel
theorem dL_law_247 : decode cL_law 247 = .ok (.invokevirtual 27, 3) := by decide +kernel
theorem dL_law_250 : decode cL_law 250 = .ok (.aload_n 2, 1) := by decide +kernel
theorem dL_law_251 : decode cL_law 251 = .ok (.aload_n 0, 1) := by decide +kernel
theorem dL_law_252 : decode cL_law 252 = .ok (.iload_n 3, 1) := by decide +kernel
theorem dL_law_253 : decode cL_law 253 = .ok (.iconst 1, 1) := by decide +kernel
theorem dL_law_254 : decode cL_law 254 = .ok (.iadd, 1) := by decide +kernel
theorem dL_law_255 : decode cL_law 255 = .ok (.iaload, 1) := by decide +kernel
theorem dL_law_256 : decode cL_law 256 = .ok (.invokevirtual 30, 3) := by decide +kernel
theorem dL_law_259 : decode cL_law 259 = .ok (.if_icmp .eq 641, 3) := by decide +kernel
theorem dL_law_262 : decode cL_law 262 = .ok (.iconst 0, 1) := by decide +kernel
theorem dL_law_263 : decode cL_law 263 = .ok (.ireturn, 1) := by decide +kernel
theorem dL_law_264 : decode cL_law 264 = .ok (.aload_n 1, 1) := by decide +kernel
theorem dL_law_265 : decode cL_law 265 = .ok (.aload_n 0, 1) := by decide +kernel
theorem dL_law_266 : decode cL_law 266 = .ok (.iload_n 3, 1) := by decide +kernel
theorem dL_law_267 : decode cL_law 267 = .ok (.iconst 1, 1) := by decide +kernel
theorem dL_law_268 : decode cL_law 268 = .ok (.iadd, 1) := by decide +kernel
theorem dL_law_269 : decode cL_law 269 = .ok (.iaload, 1) := by decide +kernel
theorem dL_law_270 : decode cL_law 270 = .ok (.invokevirtual 31, 3) := by decide +kernel
theorem dL_law_273 : decode cL_law 273 = .ok (.aload_n 2, 1) := by decide +kernel
theorem dL_law_274 : decode cL_law 274 = .ok (.aload_n 0, 1) := by decide +kernel
theorem dL_law_275 : decode cL_law 275 = .ok (.iload_n 3, 1) := by decide +kernel
theorem dL_law_276 : decode cL_law 276 = .ok (.iconst 1, 1) := by decide +kernel
theorem dL_law_277 : decode cL_law 277 = .ok (.iadd, 1) := by decide +kernel
theorem dL_law_278 : decode cL_law 278 = .ok (.iaload, 1) := by decide +kernel
theorem dL_law_279 : decode cL_law 279 = .ok (.invokevirtual 34, 3) := by decide +kernel
theorem dL_law_282 : decode cL_law 282 = .ok (.if_icmp .eq 618, 3) := by decide +kernel
theorem dL_law_285 : decode cL_law 285 = .ok (.iconst 0, 1) := by decide +kernel
theorem dL_law_286 : decode cL_law 286 = .ok (.ireturn, 1) := by decide +kernel
theorem dL_law_287 : decode cL_law 287 = .ok (.aload_n 1, 1) := by decide +kernel
theorem dL_law_288 : decode cL_law 288 = .ok (.invokevirtual 35, 3) := by decide +kernel
theorem dL_law_291 : decode cL_law 291 = .ok (.aload_n 2, 1) := by decide +kernel
theorem dL_law_292 : decode cL_law 292 = .ok (.invokevirtual 39, 3) := by decide +kernel
theorem dL_law_295 : decode cL_law 295 = .ok (.if_icmp .eq 605, 3) := by decide +kernel
theorem dL_law_298 : decode cL_law 298 = .ok (.iconst 0, 1) := by decide +kernel
theorem dL_law_299 : decode cL_law 299 = .ok (.ireturn, 1) := by decide +kernel
theorem dL_law_300 : decode cL_law 300 = .ok (.aload_n 1, 1) := by decide +kernel
theorem dL_law_301 : decode cL_law 301 = .ok (.aload_n 0, 1) := by decide +kernel
theorem dL_law_302 : decode cL_law 302 = .ok (.iload_n 3, 1) := by decide +kernel
theorem dL_law_303 : decode cL_law 303 = .ok (.iconst 1, 1) := by decide +kernel
theorem dL_law_304 : decode cL_law 304 = .ok (.iadd, 1) := by decide +kernel
theorem dL_law_305 : decode cL_law 305 = .ok (.iaload, 1) := by decide +kernel
theorem dL_law_306 : decode cL_law 306 = .ok (.aload_n 0, 1) := by decide +kernel
theorem dL_law_307 : decode cL_law 307 = .ok (.iload_n 3, 1) := by decide +kernel
theorem dL_law_308 : decode cL_law 308 = .ok (.iconst 2, 1) := by decide +kernel
theorem dL_law_309 : decode cL_law 309 = .ok (.iadd, 1) := by decide +kernel
theorem dL_law_310 : decode cL_law 310 = .ok (.iaload, 1) := by decide +kernel
theorem dL_law_311 : decode cL_law 311 = .ok (.aload_n 0, 1) := by decide +kernel
theorem dL_law_312 : decode cL_law 312 = .ok (.iload_n 3, 1) := by decide +kernel
theorem dL_law_313 : decode cL_law 313 = .ok (.iconst 3, 1) := by decide +kernel
theorem dL_law_314 : decode cL_law 314 = .ok (.iadd, 1) := by decide +kernel
theorem dL_law_315 : decode cL_law 315 = .ok (.iaload, 1) := by decide +kernel
theorem dL_law_316 : decode cL_law 316 = .ok (.aload_n 0, 1) := by decide +kernel
theorem dL_law_317 : decode cL_law 317 = .ok (.iload_n 3, 1) := by decide +kernel
theorem dL_law_318 : decode cL_law 318 = .ok (.iconst 4, 1) := by decide +kernel
theorem dL_law_319 : decode cL_law 319 = .ok (.iadd, 1) := by decide +kernel
theorem dL_law_320 : decode cL_law 320 = .ok (.iaload, 1) := by decide +kernel
theorem dL_law_321 : decode cL_law 321 = .ok (.invokevirtual 40, 3) := by decide +kernel
theorem dL_law_324 : decode cL_law 324 = .ok (.aload_n 2, 1) := by decide +kernel
theorem dL_law_325 : decode cL_law 325 = .ok (.aload_n 0, 1) := by decide +kernel
theorem dL_law_326 : decode cL_law 326 = .ok (.iload_n 3, 1) := by decide +kernel
theorem dL_law_327 : decode cL_law 327 = .ok (.iconst 1, 1) := by decide +kernel
theorem dL_law_328 : decode cL_law 328 = .ok (.iadd, 1) := by decide +kernel
theorem dL_law_329 : decode cL_law 329 = .ok (.iaload, 1) := by decide +kernel
theorem dL_law_330 : decode cL_law 330 = .ok (.aload_n 0, 1) := by decide +kernel
theorem dL_law_331 : decode cL_law 331 = .ok (.iload_n 3, 1) := by decide +kernel
theorem dL_law_332 : decode cL_law 332 = .ok (.iconst 2, 1) := by decide +kernel
theorem dL_law_333 : decode cL_law 333 = .ok (.iadd, 1) := by decide +kernel
theorem dL_law_334 : decode cL_law 334 = .ok (.iaload, 1) := by decide +kernel
theorem dL_law_335 : decode cL_law 335 = .ok (.aload_n 0, 1) := by decide +kernel
theorem dL_law_336 : decode cL_law 336 = .ok (.iload_n 3, 1) := by decide +kernel
theorem dL_law_337 : decode cL_law 337 = .ok (.iconst 3, 1) := by decide +kernel
theorem dL_law_338 : decode cL_law 338 = .ok (.iadd, 1) := by decide +kernel
theorem dL_law_339 : decode cL_law 339 = .ok (.iaload, 1) := by decide +kernel
theorem dL_law_340 : decode cL_law 340 = .ok (.aload_n 0, 1) := by decide +kernel
theorem dL_law_341 : decode cL_law 341 = .ok (.iload_n 3, 1) := by decide +kernel
theorem dL_law_342 : decode cL_law 342 = .ok (.iconst 4, 1) := by decide +kernel
theorem dL_law_343 : decode cL_law 343 = .ok (.iadd, 1) := by decide +kernel
theorem dL_law_344 : decode cL_law 344 = .ok (.iaload, 1) := by decide +kernel
theorem dL_law_345 : decode cL_law 345 = .ok (.invokevirtual 44, 3) := by decide +kernel
theorem dL_law_348 : decode cL_law 348 = .ok (.if_icmp .eq 552, 3) := by decide +kernel
theorem dL_law_351 : decode cL_law 351 = .ok (.iconst 0, 1) := by decide +kernel
theorem dL_law_352 : decode cL_law 352 = .ok (.ireturn, 1) := by decide +kernel
theorem dL_law_353 : decode cL_law 353 = .ok (.aload_n 1, 1) := by decide +kernel
theorem dL_law_354 : decode cL_law 354 = .ok (.aload_n 0, 1) := by decide +kernel
theorem dL_law_355 : decode cL_law 355 = .ok (.iload_n 3, 1) := by decide +kernel
theorem dL_law_356 : decode cL_law 356 = .ok (.iconst 1, 1) := by decide +kernel
theorem dL_law_357 : decode cL_law 357 = .ok (.iadd, 1) := by decide +kernel
theorem dL_law_358 : decode cL_law 358 = .ok (.iaload, 1) := by decide +kernel
theorem dL_law_359 : decode cL_law 359 = .ok (.aload_n 0, 1) := by decide +kernel
theorem dL_law_360 : decode cL_law 360 = .ok (.iload_n 3, 1) := by decide +kernel
theorem dL_law_361 : decode cL_law 361 = .ok (.iconst 2, 1) := by decide +kernel
theorem dL_law_362 : decode cL_law 362 = .ok (.iadd, 1) := by decide +kernel
theorem dL_law_363 : decode cL_law 363 = .ok (.iaload, 1) := by decide +kernel
theorem dL_law_364 : decode cL_law 364 = .ok (.aload_n 0, 1) := by decide +kernel
theorem dL_law_365 : decode cL_law 365 = .ok (.iload_n 3, 1) := by decide +kernel
theorem dL_law_366 : decode cL_law 366 = .ok (.iconst 3, 1) := by decide +kernel
theorem dL_law_367 : decode cL_law 367 = .ok (.iadd, 1) := by decide +kernel
theorem dL_law_368 : decode cL_law 368 = .ok (.iaload, 1) := by decide +kernel
theorem dL_law_369 : decode cL_law 369 = .ok (.aload_n 0, 1) := by decide +kernel
theorem dL_law_370 : decode cL_law 370 = .ok (.iload_n 3, 1) := by decide +kernel
theorem dL_law_371 : decode cL_law 371 = .ok (.iconst 4, 1) := by decide +kernel
theorem dL_law_372 : decode cL_law 372 = .ok (.iadd, 1) := by decide +kernel
theorem dL_law_373 : decode cL_law 373 = .ok (.iaload, 1) := by decide +kernel
theorem dL_law_374 : decode cL_law 374 = .ok (.aload_n 0, 1) := by decide +kernel
theorem dL_law_375 : decode cL_law 375 = .ok (.iload_n 3, 1) := by decide +kernel
theorem dL_law_376 : decode cL_law 376 = .ok (.iconst 5, 1) := by decide +kernel
theorem dL_law_377 : decode cL_law 377 = .ok (.iadd, 1) := by decide +kernel
theorem dL_law_378 : decode cL_law 378 = .ok (.iaload, 1) := by decide +kernel
theorem dL_law_379 : decode cL_law 379 = .ok (.invokevirtual 45, 3) := by decide +kernel
theorem dL_law_382 : decode cL_law 382 = .ok (.aload_n 2, 1) := by decide +kernel
theorem dL_law_383 : decode cL_law 383 = .ok (.aload_n 0, 1) := by decide +kernel
theorem dL_law_384 : decode cL_law 384 = .ok (.iload_n 3, 1) := by decide +kernel
theorem dL_law_385 : decode cL_law 385 = .ok (.iconst 1, 1) := by decide +kernel
theorem dL_law_386 : decode cL_law 386 = .ok (.iadd, 1) := by decide +kernel
theorem dL_law_387 : decode cL_law 387 = .ok (.iaload, 1) := by decide +kernel
theorem dL_law_388 : decode cL_law 388 = .ok (.aload_n 0, 1) := by decide +kernel
theorem dL_law_389 : decode cL_law 389 = .ok (.iload_n 3, 1) := by decide +kernel
theorem dL_law_390 : decode cL_law 390 = .ok (.iconst 2, 1) := by decide +kernel
theorem dL_law_391 : decode cL_law 391 = .ok (.iadd, 1) := by decide +kernel
theorem dL_law_392 : decode cL_law 392 = .ok (.iaload, 1) := by decide +kernel
theorem dL_law_393 : decode cL_law 393 = .ok (.aload_n 0, 1) := by decide +kernel
theorem dL_law_394 : decode cL_law 394 = .ok (.iload_n 3, 1) := by decide +kernel
theorem dL_law_395 : decode cL_law 395 = .ok (.iconst 3, 1) := by decide +kernel
theorem dL_law_396 : decode cL_law 396 = .ok (.iadd, 1) := by decide +kernel
theorem dL_law_397 : decode cL_law 397 = .ok (.iaload, 1) := by decide +kernel
theorem dL_law_398 : decode cL_law 398 = .ok (.aload_n 0, 1) := by decide +kernel
theorem dL_law_399 : decode cL_law 399 = .ok (.iload_n 3, 1) := by decide +kernel
theorem dL_law_400 : decode cL_law 400 = .ok (.iconst 4, 1) := by decide +kernel
theorem dL_law_401 : decode cL_law 401 = .ok (.iadd, 1) := by decide +kernel
theorem dL_law_402 : decode cL_law 402 = .ok (.iaload, 1) := by decide +kernel
theorem dL_law_403 : decode cL_law 403 = .ok (.aload_n 0, 1) := by decide +kernel
theorem dL_law_404 : decode cL_law 404 = .ok (.iload_n 3, 1) := by decide +kernel
theorem dL_law_405 : decode cL_law 405 = .ok (.iconst 5, 1) := by decide +kernel
theorem dL_law_406 : decode cL_law 406 = .ok (.iadd, 1) := by decide +kernel
theorem dL_law_407 : decode cL_law 407 = .ok (.iaload, 1) := by decide +kernel
theorem dL_law_408 : decode cL_law 408 = .ok (.invokevirtual 49, 3) := by decide +kernel
theorem dL_law_411 : decode cL_law 411 = .ok (.if_icmp .eq 489, 3) := by decide +kernel
theorem dL_law_414 : decode cL_law 414 = .ok (.iconst 0, 1) := by decide +kernel
theorem dL_law_415 : decode cL_law 415 = .ok (.ireturn, 1) := by decide +kernel
theorem dL_law_416 : decode cL_law 416 = .ok (.aload_n 1, 1) := by decide +kernel
theorem dL_law_417 : decode cL_law 417 = .ok (.aload_n 0, 1) := by decide +kernel
theorem dL_law_418 : decode cL_law 418 = .ok (.iload_n 3, 1) := by decide +kernel
theorem dL_law_419 : decode cL_law 419 = .ok (.iconst 1, 1) := by decide +kernel
theorem dL_law_420 : decode cL_law 420 = .ok (.iadd, 1) := by decide +kernel
theorem dL_law_421 : decode cL_law 421 = .ok (.iaload, 1) := by decide +kernel
theorem dL_law_422 : decode cL_law 422 = .ok (.aload_n 0, 1) := by decide +kernel
theorem dL_law_423 : decode cL_law 423 = .ok (.iload_n 3, 1) := by decide +kernel
theorem dL_law_424 : decode cL_law 424 = .ok (.iconst 2, 1) := by decide +kernel
theorem dL_law_425 : decode cL_law 425 = .ok (.iadd, 1) := by decide +kernel
theorem dL_law_426 : decode cL_law 426 = .ok (.iaload, 1) := by decide +kernel
theorem dL_law_427 : decode cL_law 427 = .ok (.aload_n 0, 1) := by decide +kernel
theorem dL_law_428 : decode cL_law 428 = .ok (.iload_n 3, 1) := by decide +kernel
theorem dL_law_429 : decode cL_law 429 = .ok (.iconst 3, 1) := by decide +kernel
theorem dL_law_430 : decode cL_law 430 = .ok (.iadd, 1) := by decide +kernel
theorem dL_law_431 : decode cL_law 431 = .ok (.iaload, 1) := by decide +kernel
theorem dL_law_432 : decode cL_law 432 = .ok (.invokevirtual 50, 3) := by decide +kernel
theorem dL_law_435 : decode cL_law 435 = .ok (.aload_n 2, 1) := by decide +kernel
theorem dL_law_436 : decode cL_law 436 = .ok (.aload_n 0, 1) := by decide +kernel
theorem dL_law_437 : decode cL_law 437 = .ok (.iload_n 3, 1) := by decide +kernel
theorem dL_law_438 : decode cL_law 438 = .ok (.iconst 1, 1) := by decide +kernel
theorem dL_law_439 : decode cL_law 439 = .ok (.iadd, 1) := by decide +kernel
theorem dL_law_440 : decode cL_law 440 = .ok (.iaload, 1) := by decide +kernel
theorem dL_law_441 : decode cL_law 441 = .ok (.aload_n 0, 1) := by decide +kernel
theorem dL_law_442 : decode cL_law 442 = .ok (.iload_n 3, 1) := by decide +kernel
theorem dL_law_443 : decode cL_law 443 = .ok (.iconst 2, 1) := by decide +kernel
theorem dL_law_444 : decode cL_law 444 = .ok (.iadd, 1) := by decide +kernel
theorem dL_law_445 : decode cL_law 445 = .ok (.iaload, 1) := by decide +kernel
theorem dL_law_446 : decode cL_law 446 = .ok (.aload_n 0, 1) := by decide +kernel
theorem dL_law_447 : decode cL_law 447 = .ok (.iload_n 3, 1) := by decide +kernel
theorem dL_law_448 : decode cL_law 448 = .ok (.iconst 3, 1) := by decide +kernel
theorem dL_law_449 : decode cL_law 449 = .ok (.iadd, 1) := by decide +kernel
theorem dL_law_450 : decode cL_law 450 = .ok (.iaload, 1) := by decide +kernel
theorem dL_law_451 : decode cL_law 451 = .ok (.invokevirtual 54, 3) := by decide +kernel
theorem dL_law_454 : decode cL_law 454 = .ok (.if_icmp .eq 446, 3) := by decide +kernel
theorem dL_law_457 : decode cL_law 457 = .ok (.iconst 0, 1) := by decide +kernel
theorem dL_law_458 : decode cL_law 458 = .ok (.ireturn, 1) := by decide +kernel
theorem dL_law_459 : decode cL_law 459 = .ok (.aload_n 1, 1) := by decide +kernel
theorem dL_law_460 : decode cL_law 460 = .ok (.aload_n 0, 1) := by decide +kernel
theorem dL_law_461 : decode cL_law 461 = .ok (.iload_n 3, 1) := by decide +kernel
theorem dL_law_462 : decode cL_law 462 = .ok (.iconst 1, 1) := by decide +kernel
theorem dL_law_463 : decode cL_law 463 = .ok (.iadd, 1) := by decide +kernel
theorem dL_law_464 : decode cL_law 464 = .ok (.iaload, 1) := by decide +kernel
theorem dL_law_465 : decode cL_law 465 = .ok (.aload_n 0, 1) := by decide +kernel
theorem dL_law_466 : decode cL_law 466 = .ok (.iload_n 3, 1) := by decide +kernel
theorem dL_law_467 : decode cL_law 467 = .ok (.iconst 2, 1) := by decide +kernel
theorem dL_law_468 : decode cL_law 468 = .ok (.iadd, 1) := by decide +kernel
theorem dL_law_469 : decode cL_law 469 = .ok (.iaload, 1) := by decide +kernel
theorem dL_law_470 : decode cL_law 470 = .ok (.invokevirtual 55, 3) := by decide +kernel
theorem dL_law_473 : decode cL_law 473 = .ok (.aload_n 2, 1) := by decide +kernel
theorem dL_law_474 : decode cL_law 474 = .ok (.aload_n 0, 1) := by decide +kernel
theorem dL_law_475 : decode cL_law 475 = .ok (.iload_n 3, 1) := by decide +kernel
theorem dL_law_476 : decode cL_law 476 = .ok (.iconst 1, 1) := by decide +kernel
theorem dL_law_477 : decode cL_law 477 = .ok (.iadd, 1) := by decide +kernel
theorem dL_law_478 : decode cL_law 478 = .ok (.iaload, 1) := by decide +kernel
theorem dL_law_479 : decode cL_law 479 = .ok (.aload_n 0, 1) := by decide +kernel
theorem dL_law_480 : decode cL_law 480 = .ok (.iload_n 3, 1) := by decide +kernel
theorem dL_law_481 : decode cL_law 481 = .ok (.iconst 2, 1) := by decide +kernel
theorem dL_law_482 : decode cL_law 482 = .ok (.iadd, 1) := by decide +kernel
theorem dL_law_483 : decode cL_law 483 = .ok (.iaload, 1) := by decide +kernel
theorem dL_law_484 : decode cL_law 484 = .ok (.invokevirtual 58, 3) := by decide +kernel
theorem dL_law_487 : decode cL_law 487 = .ok (.if_icmp .eq 413, 3) := by decide +kernel
theorem dL_law_490 : decode cL_law 490 = .ok (.iconst 0, 1) := by decide +kernel
theorem dL_law_491 : decode cL_law 491 = .ok (.ireturn, 1) := by decide +kernel
theorem dL_law_492 : decode cL_law 492 = .ok (.aload_n 1, 1) := by decide +kernel
theorem dL_law_493 : decode cL_law 493 = .ok (.aload_n 0, 1) := by decide +kernel
theorem dL_law_494 : decode cL_law 494 = .ok (.iload_n 3, 1) := by decide +kernel
theorem dL_law_495 : decode cL_law 495 = .ok (.iconst 1, 1) := by decide +kernel
theorem dL_law_496 : decode cL_law 496 = .ok (.iadd, 1) := by decide +kernel
theorem dL_law_497 : decode cL_law 497 = .ok (.iaload, 1) := by decide +kernel
theorem dL_law_498 : decode cL_law 498 = .ok (.aload_n 0, 1) := by decide +kernel
theorem dL_law_499 : decode cL_law 499 = .ok (.iload_n 3, 1) := by decide +kernel
theorem dL_law_500 : decode cL_law 500 = .ok (.iconst 2, 1) := by decide +kernel
theorem dL_law_501 : decode cL_law 501 = .ok (.iadd, 1) := by decide +kernel
theorem dL_law_502 : decode cL_law 502 = .ok (.iaload, 1) := by decide +kernel
theorem dL_law_503 : decode cL_law 503 = .ok (.invokevirtual 59, 3) := by decide +kernel
theorem dL_law_506 : decode cL_law 506 = .ok (.aload_n 2, 1) := by decide +kernel
theorem dL_law_507 : decode cL_law 507 = .ok (.aload_n 0, 1) := by decide +kernel
theorem dL_law_508 : decode cL_law 508 = .ok (.iload_n 3, 1) := by decide +kernel
theorem dL_law_509 : decode cL_law 509 = .ok (.iconst 1, 1) := by decide +kernel
theorem dL_law_510 : decode cL_law 510 = .ok (.iadd, 1) := by decide +kernel
theorem dL_law_511 : decode cL_law 511 = .ok (.iaload, 1) := by decide +kernel
theorem dL_law_512 : decode cL_law 512 = .ok (.aload_n 0, 1) := by decide +kernel
theorem dL_law_513 : decode cL_law 513 = .ok (.iload_n 3, 1) := by decide +kernel
theorem dL_law_514 : decode cL_law 514 = .ok (.iconst 2, 1) := by decide +kernel
theorem dL_law_515 : decode cL_law 515 = .ok (.iadd, 1) := by decide +kernel
theorem dL_law_516 : decode cL_law 516 = .ok (.iaload, 1) := by decide +kernel
theorem dL_law_517 : decode cL_law 517 = .ok (.invokevirtual 62, 3) := by decide +kernel
theorem dL_law_520 : decode cL_law 520 = .ok (.if_icmp .eq 380, 3) := by decide +kernel
theorem dL_law_523 : decode cL_law 523 = .ok (.iconst 0, 1) := by decide +kernel
theorem dL_law_524 : decode cL_law 524 = .ok (.ireturn, 1) := by decide +kernel
theorem dL_law_525 : decode cL_law 525 = .ok (.aload_n 1, 1) := by decide +kernel
theorem dL_law_526 : decode cL_law 526 = .ok (.aload_n 0, 1) := by decide +kernel
theorem dL_law_527 : decode cL_law 527 = .ok (.iload_n 3, 1) := by decide +kernel
theorem dL_law_528 : decode cL_law 528 = .ok (.iconst 1, 1) := by decide +kernel
theorem dL_law_529 : decode cL_law 529 = .ok (.iadd, 1) := by decide +kernel
theorem dL_law_530 : decode cL_law 530 = .ok (.iaload, 1) := by decide +kernel
theorem dL_law_531 : decode cL_law 531 = .ok (.aload_n 0, 1) := by decide +kernel
theorem dL_law_532 : decode cL_law 532 = .ok (.iload_n 3, 1) := by decide +kernel
theorem dL_law_533 : decode cL_law 533 = .ok (.iconst 2, 1) := by decide +kernel
theorem dL_law_534 : decode cL_law 534 = .ok (.iadd, 1) := by decide +kernel
theorem dL_law_535 : decode cL_law 535 = .ok (.iaload, 1) := by decide +kernel
theorem dL_law_536 : decode cL_law 536 = .ok (.invokevirtual 63, 3) := by decide +kernel
theorem dL_law_539 : decode cL_law 539 = .ok (.aload_n 2, 1) := by decide +kernel
theorem dL_law_540 : decode cL_law 540 = .ok (.aload_n 0, 1) := by decide +kernel
theorem dL_law_541 : decode cL_law 541 = .ok (.iload_n 3, 1) := by decide +kernel
theorem dL_law_542 : decode cL_law 542 = .ok (.iconst 1, 1) := by decide +kernel
theorem dL_law_543 : decode cL_law 543 = .ok (.iadd, 1) := by decide +kernel
theorem dL_law_544 : decode cL_law 544 = .ok (.iaload, 1) := by decide +kernel
theorem dL_law_545 : decode cL_law 545 = .ok (.aload_n 0, 1) := by decide +kernel
theorem dL_law_546 : decode cL_law 546 = .ok (.iload_n 3, 1) := by decide +kernel
theorem dL_law_547 : decode cL_law 547 = .ok (.iconst 2, 1) := by decide +kernel
theorem dL_law_548 : decode cL_law 548 = .ok (.iadd, 1) := by decide +kernel
theorem dL_law_549 : decode cL_law 549 = .ok (.iaload, 1) := by decide +kernel
theorem dL_law_550 : decode cL_law 550 = .ok (.invokevirtual 66, 3) := by decide +kernel
theorem dL_law_553 : decode cL_law 553 = .ok (.if_icmp .eq 347, 3) := by decide +kernel
theorem dL_law_556 : decode cL_law 556 = .ok (.iconst 0, 1) := by decide +kernel
theorem dL_law_557 : decode cL_law 557 = .ok (.ireturn, 1) := by decide +kernel
theorem dL_law_558 : decode cL_law 558 = .ok (.aload_n 1, 1) := by decide +kernel
theorem dL_law_559 : decode cL_law 559 = .ok (.aload_n 0, 1) := by decide +kernel
theorem dL_law_560 : decode cL_law 560 = .ok (.iload_n 3, 1) := by decide +kernel
theorem dL_law_561 : decode cL_law 561 = .ok (.iconst 1, 1) := by decide +kernel
theorem dL_law_562 : decode cL_law 562 = .ok (.iadd, 1) := by decide +kernel
theorem dL_law_563 : decode cL_law 563 = .ok (.iaload, 1) := by decide +kernel
theorem dL_law_564 : decode cL_law 564 = .ok (.aload_n 0, 1) := by decide +kernel
theorem dL_law_565 : decode cL_law 565 = .ok (.iload_n 3, 1) := by decide +kernel
theorem dL_law_566 : decode cL_law 566 = .ok (.iconst 2, 1) := by decide +kernel
theorem dL_law_567 : decode cL_law 567 = .ok (.iadd, 1) := by decide +kernel
theorem dL_law_568 : decode cL_law 568 = .ok (.iaload, 1) := by decide +kernel
theorem dL_law_569 : decode cL_law 569 = .ok (.aload_n 0, 1) := by decide +kernel
theorem dL_law_570 : decode cL_law 570 = .ok (.iload_n 3, 1) := by decide +kernel
theorem dL_law_571 : decode cL_law 571 = .ok (.iconst 3, 1) := by decide +kernel
theorem dL_law_572 : decode cL_law 572 = .ok (.iadd, 1) := by decide +kernel
theorem dL_law_573 : decode cL_law 573 = .ok (.iaload, 1) := by decide +kernel
theorem dL_law_574 : decode cL_law 574 = .ok (.invokevirtual 67, 3) := by decide +kernel
theorem dL_law_577 : decode cL_law 577 = .ok (.aload_n 2, 1) := by decide +kernel
theorem dL_law_578 : decode cL_law 578 = .ok (.aload_n 0, 1) := by decide +kernel
theorem dL_law_579 : decode cL_law 579 = .ok (.iload_n 3, 1) := by decide +kernel
theorem dL_law_580 : decode cL_law 580 = .ok (.iconst 1, 1) := by decide +kernel
theorem dL_law_581 : decode cL_law 581 = .ok (.iadd, 1) := by decide +kernel
theorem dL_law_582 : decode cL_law 582 = .ok (.iaload, 1) := by decide +kernel
theorem dL_law_583 : decode cL_law 583 = .ok (.aload_n 0, 1) := by decide +kernel
theorem dL_law_584 : decode cL_law 584 = .ok (.iload_n 3, 1) := by decide +kernel
theorem dL_law_585 : decode cL_law 585 = .ok (.iconst 2, 1) := by decide +kernel
theorem dL_law_586 : decode cL_law 586 = .ok (.iadd, 1) := by decide +kernel
theorem dL_law_587 : decode cL_law 587 = .ok (.iaload, 1) := by decide +kernel
theorem dL_law_588 : decode cL_law 588 = .ok (.aload_n 0, 1) := by decide +kernel
theorem dL_law_589 : decode cL_law 589 = .ok (.iload_n 3, 1) := by decide +kernel
theorem dL_law_590 : decode cL_law 590 = .ok (.iconst 3, 1) := by decide +kernel
theorem dL_law_591 : decode cL_law 591 = .ok (.iadd, 1) := by decide +kernel
theorem dL_law_592 : decode cL_law 592 = .ok (.iaload, 1) := by decide +kernel
theorem dL_law_593 : decode cL_law 593 = .ok (.invokevirtual 70, 3) := by decide +kernel
theorem dL_law_596 : decode cL_law 596 = .ok (.if_icmp .eq 304, 3) := by decide +kernel
theorem dL_law_599 : decode cL_law 599 = .ok (.iconst 0, 1) := by decide +kernel
theorem dL_law_600 : decode cL_law 600 = .ok (.ireturn, 1) := by decide +kernel
theorem dL_law_601 : decode cL_law 601 = .ok (.aload_n 1, 1) := by decide +kernel
theorem dL_law_602 : decode cL_law 602 = .ok (.aload_n 0, 1) := by decide +kernel
theorem dL_law_603 : decode cL_law 603 = .ok (.iload_n 3, 1) := by decide +kernel
theorem dL_law_604 : decode cL_law 604 = .ok (.iconst 1, 1) := by decide +kernel
theorem dL_law_605 : decode cL_law 605 = .ok (.iadd, 1) := by decide +kernel
theorem dL_law_606 : decode cL_law 606 = .ok (.iaload, 1) := by decide +kernel
theorem dL_law_607 : decode cL_law 607 = .ok (.invokevirtual 71, 3) := by decide +kernel
theorem dL_law_610 : decode cL_law 610 = .ok (.aload_n 2, 1) := by decide +kernel
theorem dL_law_611 : decode cL_law 611 = .ok (.aload_n 0, 1) := by decide +kernel
theorem dL_law_612 : decode cL_law 612 = .ok (.iload_n 3, 1) := by decide +kernel
theorem dL_law_613 : decode cL_law 613 = .ok (.iconst 1, 1) := by decide +kernel
theorem dL_law_614 : decode cL_law 614 = .ok (.iadd, 1) := by decide +kernel
theorem dL_law_615 : decode cL_law 615 = .ok (.iaload, 1) := by decide +kernel
theorem dL_law_616 : decode cL_law 616 = .ok (.invokevirtual 74, 3) := by decide +kernel
theorem dL_law_619 : decode cL_law 619 = .ok (.if_icmp .eq 281, 3) := by decide +kernel
theorem dL_law_622 : decode cL_law 622 = .ok (.iconst 0, 1) := by decide +kernel
theorem dL_law_623 : decode cL_law 623 = .ok (.ireturn, 1) := by decide +kernel
theorem dL_law_624 : decode cL_law 624 = .ok (.aload_n 1, 1) := by decide +kernel
theorem dL_law_625 : decode cL_law 625 = .ok (.aload_n 0, 1) := by decide +kernel
theorem dL_law_626 : decode cL_law 626 = .ok (.iload_n 3, 1) := by decide +kernel
theorem dL_law_627 : decode cL_law 627 = .ok (.iconst 1, 1) := by decide +kernel
theorem dL_law_628 : decode cL_law 628 = .ok (.iadd, 1) := by decide +kernel
theorem dL_law_629 : decode cL_law 629 = .ok (.iaload, 1) := by decide +kernel
theorem dL_law_630 : decode cL_law 630 = .ok (.aload_n 0, 1) := by decide +kernel
theorem dL_law_631 : decode cL_law 631 = .ok (.iload_n 3, 1) := by decide +kernel
theorem dL_law_632 : decode cL_law 632 = .ok (.iconst 2, 1) := by decide +kernel
theorem dL_law_633 : decode cL_law 633 = .ok (.iadd, 1) := by decide +kernel
theorem dL_law_634 : decode cL_law 634 = .ok (.iaload, 1) := by decide +kernel
theorem dL_law_635 : decode cL_law 635 = .ok (.invokevirtual 75, 3) := by decide +kernel
theorem dL_law_638 : decode cL_law 638 = .ok (.aload_n 2, 1) := by decide +kernel
theorem dL_law_639 : decode cL_law 639 = .ok (.aload_n 0, 1) := by decide +kernel
theorem dL_law_640 : decode cL_law 640 = .ok (.iload_n 3, 1) := by decide +kernel
theorem dL_law_641 : decode cL_law 641 = .ok (.iconst 1, 1) := by decide +kernel
theorem dL_law_642 : decode cL_law 642 = .ok (.iadd, 1) := by decide +kernel
theorem dL_law_643 : decode cL_law 643 = .ok (.iaload, 1) := by decide +kernel
theorem dL_law_644 : decode cL_law 644 = .ok (.aload_n 0, 1) := by decide +kernel
theorem dL_law_645 : decode cL_law 645 = .ok (.iload_n 3, 1) := by decide +kernel
theorem dL_law_646 : decode cL_law 646 = .ok (.iconst 2, 1) := by decide +kernel
theorem dL_law_647 : decode cL_law 647 = .ok (.iadd, 1) := by decide +kernel
theorem dL_law_648 : decode cL_law 648 = .ok (.iaload, 1) := by decide +kernel
theorem dL_law_649 : decode cL_law 649 = .ok (.invokevirtual 78, 3) := by decide +kernel
theorem dL_law_652 : decode cL_law 652 = .ok (.if_icmp .eq 248, 3) := by decide +kernel
theorem dL_law_655 : decode cL_law 655 = .ok (.iconst 0, 1) := by decide +kernel
theorem dL_law_656 : decode cL_law 656 = .ok (.ireturn, 1) := by decide +kernel
theorem dL_law_657 : decode cL_law 657 = .ok (.aload_n 1, 1) := by decide +kernel
theorem dL_law_658 : decode cL_law 658 = .ok (.aload_n 0, 1) := by decide +kernel
theorem dL_law_659 : decode cL_law 659 = .ok (.iload_n 3, 1) := by decide +kernel
theorem dL_law_660 : decode cL_law 660 = .ok (.iconst 1, 1) := by decide +kernel
theorem dL_law_661 : decode cL_law 661 = .ok (.iadd, 1) := by decide +kernel
theorem dL_law_662 : decode cL_law 662 = .ok (.iaload, 1) := by decide +kernel
theorem dL_law_663 : decode cL_law 663 = .ok (.aload_n 0, 1) := by decide +kernel
theorem dL_law_664 : decode cL_law 664 = .ok (.iload_n 3, 1) := by decide +kernel
theorem dL_law_665 : decode cL_law 665 = .ok (.iconst 2, 1) := by decide +kernel
theorem dL_law_666 : decode cL_law 666 = .ok (.iadd, 1) := by decide +kernel
theorem dL_law_667 : decode cL_law 667 = .ok (.iaload, 1) := by decide +kernel
theorem dL_law_668 : decode cL_law 668 = .ok (.invokevirtual 79, 3) := by decide +kernel
theorem dL_law_671 : decode cL_law 671 = .ok (.aload_n 2, 1) := by decide +kernel
theorem dL_law_672 : decode cL_law 672 = .ok (.aload_n 0, 1) := by decide +kernel
theorem dL_law_673 : decode cL_law 673 = .ok (.iload_n 3, 1) := by decide +kernel
theorem dL_law_674 : decode cL_law 674 = .ok (.iconst 1, 1) := by decide +kernel
theorem dL_law_675 : decode cL_law 675 = .ok (.iadd, 1) := by decide +kernel
theorem dL_law_676 : decode cL_law 676 = .ok (.iaload, 1) := by decide +kernel
theorem dL_law_677 : decode cL_law 677 = .ok (.aload_n 0, 1) := by decide +kernel
theorem dL_law_678 : decode cL_law 678 = .ok (.iload_n 3, 1) := by decide +kernel
theorem dL_law_679 : decode cL_law 679 = .ok (.iconst 2, 1) := by decide +kernel
theorem dL_law_680 : decode cL_law 680 = .ok (.iadd, 1) := by decide +kernel
theorem dL_law_681 : decode cL_law 681 = .ok (.iaload, 1) := by decide +kernel
theorem dL_law_682 : decode cL_law 682 = .ok (.invokevirtual 82, 3) := by decide +kernel
theorem dL_law_685 : decode cL_law 685 = .ok (.if_icmp .eq 215, 3) := by decide +kernel
theorem dL_law_688 : decode cL_law 688 = .ok (.iconst 0, 1) := by decide +kernel
theorem dL_law_689 : decode cL_law 689 = .ok (.ireturn, 1) := by decide +kernel
theorem dL_law_690 : decode cL_law 690 = .ok (.aload_n 1, 1) := by decide +kernel
theorem dL_law_691 : decode cL_law 691 = .ok (.aload_n 0, 1) := by decide +kernel
theorem dL_law_692 : decode cL_law 692 = .ok (.iload_n 3, 1) := by decide +kernel
theorem dL_law_693 : decode cL_law 693 = .ok (.iconst 1, 1) := by decide +kernel
theorem dL_law_694 : decode cL_law 694 = .ok (.iadd, 1) := by decide +kernel
theorem dL_law_695 : decode cL_law 695 = .ok (.iaload, 1) := by decide +kernel
theorem dL_law_696 : decode cL_law 696 = .ok (.invokevirtual 83, 3) := by decide +kernel
theorem dL_law_699 : decode cL_law 699 = .ok (.aload_n 2, 1) := by decide +kernel
theorem dL_law_700 : decode cL_law 700 = .ok (.aload_n 0, 1) := by decide +kernel
theorem dL_law_701 : decode cL_law 701 = .ok (.iload_n 3, 1) := by decide +kernel
theorem dL_law_702 : decode cL_law 702 = .ok (.iconst 1, 1) := by decide +kernel
theorem dL_law_703 : decode cL_law 703 = .ok (.iadd, 1) := by decide +kernel
theorem dL_law_704 : decode cL_law 704 = .ok (.iaload, 1) := by decide +kernel
theorem dL_law_705 : decode cL_law 705 = .ok (.invokevirtual 86, 3) := by decide +kernel
theorem dL_law_708 : decode cL_law 708 = .ok (.if_icmp .eq 192, 3) := by decide +kernel
theorem dL_law_711 : decode cL_law 711 = .ok (.iconst 0, 1) := by decide +kernel
theorem dL_law_712 : decode cL_law 712 = .ok (.ireturn, 1) := by decide +kernel
theorem dL_law_713 : decode cL_law 713 = .ok (.aload_n 1, 1) := by decide +kernel
theorem dL_law_714 : decode cL_law 714 = .ok (.aload_n 0, 1) := by decide +kernel
theorem dL_law_715 : decode cL_law 715 = .ok (.iload_n 3, 1) := by decide +kernel
theorem dL_law_716 : decode cL_law 716 = .ok (.iconst 1, 1) := by decide +kernel
theorem dL_law_717 : decode cL_law 717 = .ok (.iadd, 1) := by decide +kernel
theorem dL_law_718 : decode cL_law 718 = .ok (.iaload, 1) := by decide +kernel
theorem dL_law_719 : decode cL_law 719 = .ok (.invokevirtual 87, 3) := by decide +kernel
theorem dL_law_722 : decode cL_law 722 = .ok (.aload_n 2, 1) := by decide +kernel
theorem dL_law_723 : decode cL_law 723 = .ok (.aload_n 0, 1) := by decide +kernel
theorem dL_law_724 : decode cL_law 724 = .ok (.iload_n 3, 1) := by decide +kernel
theorem dL_law_725 : decode cL_law 725 = .ok (.iconst 1, 1) := by decide +kernel
theorem dL_law_726 : decode cL_law 726 = .ok (.iadd, 1) := by decide +kernel
theorem dL_law_727 : decode cL_law 727 = .ok (.iaload, 1) := by decide +kernel
theorem dL_law_728 : decode cL_law 728 = .ok (.invokevirtual 90, 3) := by decide +kernel
theorem dL_law_731 : decode cL_law 731 = .ok (.if_icmp .eq 169, 3) := by decide +kernel
theorem dL_law_734 : decode cL_law 734 = .ok (.iconst 0, 1) := by decide +kernel
theorem dL_law_735 : decode cL_law 735 = .ok (.ireturn, 1) := by decide +kernel
theorem dL_law_736 : decode cL_law 736 = .ok (.aload_n 1, 1) := by decide +kernel
theorem dL_law_737 : decode cL_law 737 = .ok (.aload_n 0, 1) := by decide +kernel
theorem dL_law_738 : decode cL_law 738 = .ok (.iload_n 3, 1) := by decide +kernel
theorem dL_law_739 : decode cL_law 739 = .ok (.iconst 1, 1) := by decide +kernel
theorem dL_law_740 : decode cL_law 740 = .ok (.iadd, 1) := by decide +kernel
theorem dL_law_741 : decode cL_law 741 = .ok (.iaload, 1) := by decide +kernel
theorem dL_law_742 : decode cL_law 742 = .ok (.invokevirtual 91, 3) := by decide +kernel
theorem dL_law_745 : decode cL_law 745 = .ok (.aload_n 2, 1) := by decide +kernel
theorem dL_law_746 : decode cL_law 746 = .ok (.aload_n 0, 1) := by decide +kernel
theorem dL_law_747 : decode cL_law 747 = .ok (.iload_n 3, 1) := by decide +kernel
theorem dL_law_748 : decode cL_law 748 = .ok (.iconst 1, 1) := by decide +kernel
theorem dL_law_749 : decode cL_law 749 = .ok (.iadd, 1) := by decide +kernel
theorem dL_law_750 : decode cL_law 750 = .ok (.iaload, 1) := by decide +kernel
theorem dL_law_751 : decode cL_law 751 = .ok (.invokevirtual 94, 3) := by decide +kernel
theorem dL_law_754 : decode cL_law 754 = .ok (.if_icmp .eq 146, 3) := by decide +kernel
theorem dL_law_757 : decode cL_law 757 = .ok (.iconst 0, 1) := by decide +kernel
theorem dL_law_758 : decode cL_law 758 = .ok (.ireturn, 1) := by decide +kernel
theorem dL_law_759 : decode cL_law 759 = .ok (.aload_n 1, 1) := by decide +kernel
theorem dL_law_760 : decode cL_law 760 = .ok (.aload_n 0, 1) := by decide +kernel
theorem dL_law_761 : decode cL_law 761 = .ok (.iload_n 3, 1) := by decide +kernel
theorem dL_law_762 : decode cL_law 762 = .ok (.iconst 1, 1) := by decide +kernel
theorem dL_law_763 : decode cL_law 763 = .ok (.iadd, 1) := by decide +kernel
theorem dL_law_764 : decode cL_law 764 = .ok (.iaload, 1) := by decide +kernel
theorem dL_law_765 : decode cL_law 765 = .ok (.aload_n 0, 1) := by decide +kernel
theorem dL_law_766 : decode cL_law 766 = .ok (.iload_n 3, 1) := by decide +kernel
theorem dL_law_767 : decode cL_law 767 = .ok (.iconst 2, 1) := by decide +kernel
theorem dL_law_768 : decode cL_law 768 = .ok (.iadd, 1) := by decide +kernel
theorem dL_law_769 : decode cL_law 769 = .ok (.iaload, 1) := by decide +kernel
theorem dL_law_770 : decode cL_law 770 = .ok (.invokevirtual 95, 3) := by decide +kernel
theorem dL_law_773 : decode cL_law 773 = .ok (.aload_n 2, 1) := by decide +kernel
theorem dL_law_774 : decode cL_law 774 = .ok (.aload_n 0, 1) := by decide +kernel
theorem dL_law_775 : decode cL_law 775 = .ok (.iload_n 3, 1) := by decide +kernel
theorem dL_law_776 : decode cL_law 776 = .ok (.iconst 1, 1) := by decide +kernel
theorem dL_law_777 : decode cL_law 777 = .ok (.iadd, 1) := by decide +kernel
theorem dL_law_778 : decode cL_law 778 = .ok (.iaload, 1) := by decide +kernel
theorem dL_law_779 : decode cL_law 779 = .ok (.aload_n 0, 1) := by decide +kernel
theorem dL_law_780 : decode cL_law 780 = .ok (.iload_n 3, 1) := by decide +kernel
theorem dL_law_781 : decode cL_law 781 = .ok (.iconst 2, 1) := by decide +kernel
theorem dL_law_782 : decode cL_law 782 = .ok (.iadd, 1) := by decide +kernel
theorem dL_law_783 : decode cL_law 783 = .ok (.iaload, 1) := by decide +kernel
theorem dL_law_784 : decode cL_law 784 = .ok (.invokevirtual 98, 3) := by decide +kernel
theorem dL_law_787 : decode cL_law 787 = .ok (.if_icmp .eq 113, 3) := by decide +kernel
theorem dL_law_790 : decode cL_law 790 = .ok (.iconst 0, 1) := by decide +kernel
theorem dL_law_791 : decode cL_law 791 = .ok (.ireturn, 1) := by decide +kernel
theorem dL_law_792 : decode cL_law 792 = .ok (.aload_n 1, 1) := by decide +kernel
theorem dL_law_793 : decode cL_law 793 = .ok (.aload_n 0, 1) := by decide +kernel
theorem dL_law_794 : decode cL_law 794 = .ok (.iload_n 3, 1) := by decide +kernel
theorem dL_law_795 : decode cL_law 795 = .ok (.iconst 1, 1) := by decide +kernel
theorem dL_law_796 : decode cL_law 796 = .ok (.iadd, 1) := by decide +kernel
theorem dL_law_797 : decode cL_law 797 = .ok (.iaload, 1) := by decide +kernel
theorem dL_law_798 : decode cL_law 798 = .ok (.invokevirtual 99, 3) := by decide +kernel
theorem dL_law_801 : decode cL_law 801 = .ok (.aload_n 2, 1) := by decide +kernel
theorem dL_law_802 : decode cL_law 802 = .ok (.aload_n 0, 1) := by decide +kernel
theorem dL_law_803 : decode cL_law 803 = .ok (.iload_n 3, 1) := by decide +kernel
theorem dL_law_804 : decode cL_law 804 = .ok (.iconst 1, 1) := by decide +kernel
theorem dL_law_805 : decode cL_law 805 = .ok (.iadd, 1) := by decide +kernel
theorem dL_law_806 : decode cL_law 806 = .ok (.iaload, 1) := by decide +kernel
theorem dL_law_807 : decode cL_law 807 = .ok (.invokevirtual 102, 3) := by decide +kernel
theorem dL_law_810 : decode cL_law 810 = .ok (.if_icmp .eq 90, 3) := by decide +kernel
theorem dL_law_813 : decode cL_law 813 = .ok (.iconst 0, 1) := by decide +kernel
theorem dL_law_814 : decode cL_law 814 = .ok (.ireturn, 1) := by decide +kernel
theorem dL_law_815 : decode cL_law 815 = .ok (.aload_n 1, 1) := by decide +kernel
theorem dL_law_816 : decode cL_law 816 = .ok (.invokevirtual 103, 3) := by decide +kernel
theorem dL_law_819 : decode cL_law 819 = .ok (.aload_n 2, 1) := by decide +kernel
theorem dL_law_820 : decode cL_law 820 = .ok (.invokevirtual 106, 3) := by decide +kernel
theorem dL_law_823 : decode cL_law 823 = .ok (.if_icmp .eq 77, 3) := by decide +kernel
theorem dL_law_826 : decode cL_law 826 = .ok (.iconst 0, 1) := by decide +kernel
theorem dL_law_827 : decode cL_law 827 = .ok (.ireturn, 1) := by decide +kernel
theorem dL_law_828 : decode cL_law 828 = .ok (.aload_n 1, 1) := by decide +kernel
theorem dL_law_829 : decode cL_law 829 = .ok (.aload_n 0, 1) := by decide +kernel
theorem dL_law_830 : decode cL_law 830 = .ok (.iload_n 3, 1) := by decide +kernel
theorem dL_law_831 : decode cL_law 831 = .ok (.iconst 1, 1) := by decide +kernel
theorem dL_law_832 : decode cL_law 832 = .ok (.iadd, 1) := by decide +kernel
theorem dL_law_833 : decode cL_law 833 = .ok (.iaload, 1) := by decide +kernel
theorem dL_law_834 : decode cL_law 834 = .ok (.invokevirtual 107, 3) := by decide +kernel
theorem dL_law_837 : decode cL_law 837 = .ok (.aload_n 2, 1) := by decide +kernel
theorem dL_law_838 : decode cL_law 838 = .ok (.aload_n 0, 1) := by decide +kernel
theorem dL_law_839 : decode cL_law 839 = .ok (.iload_n 3, 1) := by decide +kernel
theorem dL_law_840 : decode cL_law 840 = .ok (.iconst 1, 1) := by decide +kernel
theorem dL_law_841 : decode cL_law 841 = .ok (.iadd, 1) := by decide +kernel
theorem dL_law_842 : decode cL_law 842 = .ok (.iaload, 1) := by decide +kernel
theorem dL_law_843 : decode cL_law 843 = .ok (.invokevirtual 110, 3) := by decide +kernel
theorem dL_law_846 : decode cL_law 846 = .ok (.if_icmp .eq 54, 3) := by decide +kernel
theorem dL_law_849 : decode cL_law 849 = .ok (.iconst 0, 1) := by decide +kernel
theorem dL_law_850 : decode cL_law 850 = .ok (.ireturn, 1) := by decide +kernel
theorem dL_law_851 : decode cL_law 851 = .ok (.aload_n 1, 1) := by decide +kernel
theorem dL_law_852 : decode cL_law 852 = .ok (.invokevirtual 111, 3) := by decide +kernel
theorem dL_law_855 : decode cL_law 855 = .ok (.aload_n 2, 1) := by decide +kernel
theorem dL_law_856 : decode cL_law 856 = .ok (.invokevirtual 114, 3) := by decide +kernel
theorem dL_law_859 : decode cL_law 859 = .ok (.if_icmp .eq 41, 3) := by decide +kernel
theorem dL_law_862 : decode cL_law 862 = .ok (.iconst 0, 1) := by decide +kernel
theorem dL_law_863 : decode cL_law 863 = .ok (.ireturn, 1) := by decide +kernel
theorem dL_law_864 : decode cL_law 864 = .ok (.aload_n 1, 1) := by decide +kernel
theorem dL_law_865 : decode cL_law 865 = .ok (.aload_n 0, 1) := by decide +kernel
theorem dL_law_866 : decode cL_law 866 = .ok (.iload_n 3, 1) := by decide +kernel
theorem dL_law_867 : decode cL_law 867 = .ok (.iconst 1, 1) := by decide +kernel
theorem dL_law_868 : decode cL_law 868 = .ok (.iadd, 1) := by decide +kernel
theorem dL_law_869 : decode cL_law 869 = .ok (.iaload, 1) := by decide +kernel
theorem dL_law_870 : decode cL_law 870 = .ok (.invokevirtual 115, 3) := by decide +kernel
theorem dL_law_873 : decode cL_law 873 = .ok (.aload_n 2, 1) := by decide +kernel
theorem dL_law_874 : decode cL_law 874 = .ok (.aload_n 0, 1) := by decide +kernel
theorem dL_law_875 : decode cL_law 875 = .ok (.iload_n 3, 1) := by decide +kernel
theorem dL_law_876 : decode cL_law 876 = .ok (.iconst 1, 1) := by decide +kernel
theorem dL_law_877 : decode cL_law 877 = .ok (.iadd, 1) := by decide +kernel
theorem dL_law_878 : decode cL_law 878 = .ok (.iaload, 1) := by decide +kernel
theorem dL_law_879 : decode cL_law 879 = .ok (.invokevirtual 118, 3) := by decide +kernel
theorem dL_law_882 : decode cL_law 882 = .ok (.if_icmp .eq 18, 3) := by decide +kernel
theorem dL_law_885 : decode cL_law 885 = .ok (.iconst 0, 1) := by decide +kernel
theorem dL_law_886 : decode cL_law 886 = .ok (.ireturn, 1) := by decide +kernel
theorem dL_law_887 : decode cL_law 887 = .ok (.aload_n 1, 1) := by decide +kernel
theorem dL_law_888 : decode cL_law 888 = .ok (.invokevirtual 119, 3) := by decide +kernel
theorem dL_law_891 : decode cL_law 891 = .ok (.aload_n 2, 1) := by decide +kernel
theorem dL_law_892 : decode cL_law 892 = .ok (.invokevirtual 122, 3) := by decide +kernel
theorem dL_law_895 : decode cL_law 895 = .ok (.if_icmp .eq 5, 3) := by decide +kernel
theorem dL_law_898 : decode cL_law 898 = .ok (.iconst 0, 1) := by decide +kernel
theorem dL_law_899 : decode cL_law 899 = .ok (.ireturn, 1) := by decide +kernel
theorem dL_law_900 : decode cL_law 900 = .ok (.iinc 3 6, 3) := by decide +kernel
theorem dL_law_903 : decode cL_law 903 = .ok (.goto (-885), 3) := by decide +kernel
theorem dL_law_906 : decode cL_law 906 = .ok (.iconst 1, 1) := by decide +kernel
theorem dL_law_907 : decode cL_law 907 = .ok (.ireturn, 1) := by decide +kernel
abbrev vwCl : List vw_C := [(RX0, TX0, 3), (RX1, TX1, 2), (RX2, TX2, 12), (RX3, TX3, 3), (RX4, TX4, 8), (RX5, TX5, 5), (RX6, TX6, 5), (RX7, TX7, 4), (RX8, TX8, 16)]
end
