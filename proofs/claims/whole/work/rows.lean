section
-- ===== PART A: goes FIRST, ahead of the names: the tables' words, and 'selects' of the private methods out of them =====
/-- a private method of a class that the tables say can be made, by its rows of tables_1 -/
def lw_okq (q : MethodName × Nat) : Prop := (q.1.cls ≠ "java/lang/invoke/MethodHandle" ∧ q.1.cls ≠ "java/lang/invoke/VarHandle") ∧ Cond.instantiable q.1.cls q.2 ∈ tables_1 ∧ Cond.privateMethod q.1 ∈ tables_1 ∧ Cond.instanceMethod q.1 ∈ tables_1
theorem lw_p0 : lw_okq (⟨"WineFutures", "settled", "(I)I"⟩, 4) := ⟨⟨by decide +kernel, by decide +kernel⟩, List.mem_of_getElem? (i := 13) (by decide +kernel), List.mem_of_getElem? (i := 278) (by decide +kernel), List.mem_of_getElem? (i := 279) (by decide +kernel)⟩
theorem lw_p1 : lw_okq (⟨"WineFuturesModel", "changes", "()V"⟩, 16) := ⟨⟨by decide +kernel, by decide +kernel⟩, List.mem_of_getElem? (i := 665) (by decide +kernel), List.mem_of_getElem? (i := 729) (by decide +kernel), List.mem_of_getElem? (i := 730) (by decide +kernel)⟩
theorem lw_p2 : lw_okq (⟨"WineFuturesModel", "isLot", "(I)Z"⟩, 16) := ⟨⟨by decide +kernel, by decide +kernel⟩, List.mem_of_getElem? (i := 665) (by decide +kernel), List.mem_of_getElem? (i := 737) (by decide +kernel), List.mem_of_getElem? (i := 738) (by decide +kernel)⟩
theorem lw_p3 : lw_okq (⟨"WineFuturesModel", "loads", "(I)V"⟩, 16) := ⟨⟨by decide +kernel, by decide +kernel⟩, List.mem_of_getElem? (i := 665) (by decide +kernel), List.mem_of_getElem? (i := 741) (by decide +kernel), List.mem_of_getElem? (i := 742) (by decide +kernel)⟩
theorem lw_p4 : lw_okq (⟨"WineFuturesModel", "of", "(II)I"⟩, 16) := ⟨⟨by decide +kernel, by decide +kernel⟩, List.mem_of_getElem? (i := 665) (by decide +kernel), List.mem_of_getElem? (i := 745) (by decide +kernel), List.mem_of_getElem? (i := 746) (by decide +kernel)⟩
theorem lw_p5 : lw_okq (⟨"WineFuturesModel", "isOpen", "(I)Z"⟩, 16) := ⟨⟨by decide +kernel, by decide +kernel⟩, List.mem_of_getElem? (i := 665) (by decide +kernel), List.mem_of_getElem? (i := 749) (by decide +kernel), List.mem_of_getElem? (i := 750) (by decide +kernel)⟩
theorem lw_p6 : lw_okq (⟨"WineFuturesModel", "tasted", "()I"⟩, 16) := ⟨⟨by decide +kernel, by decide +kernel⟩, List.mem_of_getElem? (i := 665) (by decide +kernel), List.mem_of_getElem? (i := 753) (by decide +kernel), List.mem_of_getElem? (i := 754) (by decide +kernel)⟩
theorem lw_p7 : lw_okq (⟨"WineFuturesModel", "leaves", "()V"⟩, 16) := ⟨⟨by decide +kernel, by decide +kernel⟩, List.mem_of_getElem? (i := 665) (by decide +kernel), List.mem_of_getElem? (i := 759) (by decide +kernel), List.mem_of_getElem? (i := 760) (by decide +kernel)⟩
theorem lw_p8 : lw_okq (⟨"WineFuturesModel", "lays", "(I)V"⟩, 16) := ⟨⟨by decide +kernel, by decide +kernel⟩, List.mem_of_getElem? (i := 665) (by decide +kernel), List.mem_of_getElem? (i := 763) (by decide +kernel), List.mem_of_getElem? (i := 764) (by decide +kernel)⟩
theorem lw_p9 : lw_okq (⟨"WineFuturesModel", "quote", "(I)I"⟩, 16) := ⟨⟨by decide +kernel, by decide +kernel⟩, List.mem_of_getElem? (i := 665) (by decide +kernel), List.mem_of_getElem? (i := 767) (by decide +kernel), List.mem_of_getElem? (i := 768) (by decide +kernel)⟩
theorem lw_p10 : lw_okq (⟨"WineFuturesModel", "needy", "()I"⟩, 16) := ⟨⟨by decide +kernel, by decide +kernel⟩, List.mem_of_getElem? (i := 665) (by decide +kernel), List.mem_of_getElem? (i := 775) (by decide +kernel), List.mem_of_getElem? (i := 776) (by decide +kernel)⟩
theorem lw_p11 : lw_okq (⟨"WineFuturesModel", "tops", "()V"⟩, 16) := ⟨⟨by decide +kernel, by decide +kernel⟩, List.mem_of_getElem? (i := 665) (by decide +kernel), List.mem_of_getElem? (i := 779) (by decide +kernel), List.mem_of_getElem? (i := 780) (by decide +kernel)⟩
theorem lw_p12 : lw_okq (⟨"WineFuturesModel", "passes", "()I"⟩, 16) := ⟨⟨by decide +kernel, by decide +kernel⟩, List.mem_of_getElem? (i := 665) (by decide +kernel), List.mem_of_getElem? (i := 787) (by decide +kernel), List.mem_of_getElem? (i := 788) (by decide +kernel)⟩
theorem lw_p13 : lw_okq (⟨"WineFuturesModel", "month", "(I)I"⟩, 16) := ⟨⟨by decide +kernel, by decide +kernel⟩, List.mem_of_getElem? (i := 665) (by decide +kernel), List.mem_of_getElem? (i := 791) (by decide +kernel), List.mem_of_getElem? (i := 792) (by decide +kernel)⟩
theorem lw_p14 : lw_okq (⟨"WineFuturesModel", "all", "()I"⟩, 16) := ⟨⟨by decide +kernel, by decide +kernel⟩, List.mem_of_getElem? (i := 665) (by decide +kernel), List.mem_of_getElem? (i := 799) (by decide +kernel), List.mem_of_getElem? (i := 800) (by decide +kernel)⟩
theorem lw_p15 : lw_okq (⟨"WineFuturesModel", "allHeld", "(I)I"⟩, 16) := ⟨⟨by decide +kernel, by decide +kernel⟩, List.mem_of_getElem? (i := 665) (by decide +kernel), List.mem_of_getElem? (i := 803) (by decide +kernel), List.mem_of_getElem? (i := 804) (by decide +kernel)⟩
def lw_privs_1 : List (MethodName × Nat) := [(⟨"WineFutures", "settled", "(I)I"⟩, 4), (⟨"WineFuturesModel", "changes", "()V"⟩, 16), (⟨"WineFuturesModel", "isLot", "(I)Z"⟩, 16), (⟨"WineFuturesModel", "loads", "(I)V"⟩, 16), (⟨"WineFuturesModel", "of", "(II)I"⟩, 16), (⟨"WineFuturesModel", "isOpen", "(I)Z"⟩, 16), (⟨"WineFuturesModel", "tasted", "()I"⟩, 16), (⟨"WineFuturesModel", "leaves", "()V"⟩, 16), (⟨"WineFuturesModel", "lays", "(I)V"⟩, 16), (⟨"WineFuturesModel", "quote", "(I)I"⟩, 16), (⟨"WineFuturesModel", "needy", "()I"⟩, 16), (⟨"WineFuturesModel", "tops", "()V"⟩, 16), (⟨"WineFuturesModel", "passes", "()I"⟩, 16), (⟨"WineFuturesModel", "month", "(I)I"⟩, 16), (⟨"WineFuturesModel", "all", "()I"⟩, 16), (⟨"WineFuturesModel", "allHeld", "(I)I"⟩, 16)]
theorem lw_r1 : ∀ q ∈ lw_privs_1, lw_okq q := List.forall_mem_cons.mpr ⟨lw_p0, List.forall_mem_cons.mpr ⟨lw_p1, List.forall_mem_cons.mpr ⟨lw_p2, List.forall_mem_cons.mpr ⟨lw_p3, List.forall_mem_cons.mpr ⟨lw_p4, List.forall_mem_cons.mpr ⟨lw_p5, List.forall_mem_cons.mpr ⟨lw_p6, List.forall_mem_cons.mpr ⟨lw_p7, List.forall_mem_cons.mpr ⟨lw_p8, List.forall_mem_cons.mpr ⟨lw_p9, List.forall_mem_cons.mpr ⟨lw_p10, List.forall_mem_cons.mpr ⟨lw_p11, List.forall_mem_cons.mpr ⟨lw_p12, List.forall_mem_cons.mpr ⟨lw_p13, List.forall_mem_cons.mpr ⟨lw_p14, List.forall_mem_cons.mpr ⟨lw_p15, fun _ h => absurd h List.not_mem_nil⟩⟩⟩⟩⟩⟩⟩⟩⟩⟩⟩⟩⟩⟩⟩⟩
theorem lw_p16 : lw_okq (⟨"WineFuturesModel", "holds", "(II)I"⟩, 16) := ⟨⟨by decide +kernel, by decide +kernel⟩, List.mem_of_getElem? (i := 665) (by decide +kernel), List.mem_of_getElem? (i := 807) (by decide +kernel), List.mem_of_getElem? (i := 808) (by decide +kernel)⟩
theorem lw_p17 : lw_okq (⟨"WineFuturesModel", "wouldCut", "(IIII)I"⟩, 16) := ⟨⟨by decide +kernel, by decide +kernel⟩, List.mem_of_getElem? (i := 665) (by decide +kernel), List.mem_of_getElem? (i := 814) (by decide +kernel), List.mem_of_getElem? (i := 815) (by decide +kernel)⟩
theorem lw_p18 : lw_okq (⟨"WineFuturesModel", "goes", "(III)I"⟩, 16) := ⟨⟨by decide +kernel, by decide +kernel⟩, List.mem_of_getElem? (i := 665) (by decide +kernel), List.mem_of_getElem? (i := 818) (by decide +kernel), List.mem_of_getElem? (i := 819) (by decide +kernel)⟩
theorem lw_p19 : lw_okq (⟨"WineFuturesModel", "enters", "(IIIIII)V"⟩, 16) := ⟨⟨by decide +kernel, by decide +kernel⟩, List.mem_of_getElem? (i := 665) (by decide +kernel), List.mem_of_getElem? (i := 822) (by decide +kernel), List.mem_of_getElem? (i := 823) (by decide +kernel)⟩
theorem lw_p20 : lw_okq (⟨"WineFuturesModel", "isBuyer", "(I)Z"⟩, 16) := ⟨⟨by decide +kernel, by decide +kernel⟩, List.mem_of_getElem? (i := 665) (by decide +kernel), List.mem_of_getElem? (i := 834) (by decide +kernel), List.mem_of_getElem? (i := 835) (by decide +kernel)⟩
theorem lw_p21 : lw_okq (⟨"WineFuturesModel", "expected", "(I)I"⟩, 16) := ⟨⟨by decide +kernel, by decide +kernel⟩, List.mem_of_getElem? (i := 665) (by decide +kernel), List.mem_of_getElem? (i := 841) (by decide +kernel), List.mem_of_getElem? (i := 842) (by decide +kernel)⟩
theorem lw_p22 : lw_okq (⟨"WineFuturesModel", "casesIn", "(II)I"⟩, 16) := ⟨⟨by decide +kernel, by decide +kernel⟩, List.mem_of_getElem? (i := 665) (by decide +kernel), List.mem_of_getElem? (i := 845) (by decide +kernel), List.mem_of_getElem? (i := 846) (by decide +kernel)⟩
theorem lw_p23 : lw_okq (⟨"WineFuturesModel", "comes", "(IIIII)V"⟩, 16) := ⟨⟨by decide +kernel, by decide +kernel⟩, List.mem_of_getElem? (i := 665) (by decide +kernel), List.mem_of_getElem? (i := 849) (by decide +kernel), List.mem_of_getElem? (i := 850) (by decide +kernel)⟩
theorem lw_p24 : lw_okq (⟨"WineFuturesModel", "mean", "(II)I"⟩, 16) := ⟨⟨by decide +kernel, by decide +kernel⟩, List.mem_of_getElem? (i := 665) (by decide +kernel), List.mem_of_getElem? (i := 877) (by decide +kernel), List.mem_of_getElem? (i := 878) (by decide +kernel)⟩
theorem lw_p25 : lw_okq (⟨"WineFuturesModel", "accounts", "()I"⟩, 16) := ⟨⟨by decide +kernel, by decide +kernel⟩, List.mem_of_getElem? (i := 665) (by decide +kernel), List.mem_of_getElem? (i := 923) (by decide +kernel), List.mem_of_getElem? (i := 924) (by decide +kernel)⟩
theorem lw_p26 : lw_okq (⟨"WineFuturesModel", "ofLots", "(Z)I"⟩, 16) := ⟨⟨by decide +kernel, by decide +kernel⟩, List.mem_of_getElem? (i := 665) (by decide +kernel), List.mem_of_getElem? (i := 927) (by decide +kernel), List.mem_of_getElem? (i := 928) (by decide +kernel)⟩
theorem lw_p27 : lw_okq (⟨"WineFuturesModel", "plays", "()Z"⟩, 16) := ⟨⟨by decide +kernel, by decide +kernel⟩, List.mem_of_getElem? (i := 665) (by decide +kernel), List.mem_of_getElem? (i := 950) (by decide +kernel), List.mem_of_getElem? (i := 951) (by decide +kernel)⟩
theorem lw_p28 : lw_okq (⟨"WineFuturesModel", "reads", "()Z"⟩, 16) := ⟨⟨by decide +kernel, by decide +kernel⟩, List.mem_of_getElem? (i := 665) (by decide +kernel), List.mem_of_getElem? (i := 954) (by decide +kernel), List.mem_of_getElem? (i := 955) (by decide +kernel)⟩
theorem lw_p29 : lw_okq (⟨"WineFuturesModel", "isAt", "(II)Z"⟩, 16) := ⟨⟨by decide +kernel, by decide +kernel⟩, List.mem_of_getElem? (i := 665) (by decide +kernel), List.mem_of_getElem? (i := 958) (by decide +kernel), List.mem_of_getElem? (i := 959) (by decide +kernel)⟩
theorem lw_p30 : lw_okq (⟨"WineFuturesModel", "number", "(I)Z"⟩, 16) := ⟨⟨by decide +kernel, by decide +kernel⟩, List.mem_of_getElem? (i := 665) (by decide +kernel), List.mem_of_getElem? (i := 965) (by decide +kernel), List.mem_of_getElem? (i := 966) (by decide +kernel)⟩
theorem lw_p31 : lw_okq (⟨"WineFuturesModel", "sign", "(I)Z"⟩, 16) := ⟨⟨by decide +kernel, by decide +kernel⟩, List.mem_of_getElem? (i := 665) (by decide +kernel), List.mem_of_getElem? (i := 969) (by decide +kernel), List.mem_of_getElem? (i := 970) (by decide +kernel)⟩
def lw_privs_2 : List (MethodName × Nat) := [(⟨"WineFuturesModel", "holds", "(II)I"⟩, 16), (⟨"WineFuturesModel", "wouldCut", "(IIII)I"⟩, 16), (⟨"WineFuturesModel", "goes", "(III)I"⟩, 16), (⟨"WineFuturesModel", "enters", "(IIIIII)V"⟩, 16), (⟨"WineFuturesModel", "isBuyer", "(I)Z"⟩, 16), (⟨"WineFuturesModel", "expected", "(I)I"⟩, 16), (⟨"WineFuturesModel", "casesIn", "(II)I"⟩, 16), (⟨"WineFuturesModel", "comes", "(IIIII)V"⟩, 16), (⟨"WineFuturesModel", "mean", "(II)I"⟩, 16), (⟨"WineFuturesModel", "accounts", "()I"⟩, 16), (⟨"WineFuturesModel", "ofLots", "(Z)I"⟩, 16), (⟨"WineFuturesModel", "plays", "()Z"⟩, 16), (⟨"WineFuturesModel", "reads", "()Z"⟩, 16), (⟨"WineFuturesModel", "isAt", "(II)Z"⟩, 16), (⟨"WineFuturesModel", "number", "(I)Z"⟩, 16), (⟨"WineFuturesModel", "sign", "(I)Z"⟩, 16)]
theorem lw_r2 : ∀ q ∈ lw_privs_2, lw_okq q := List.forall_mem_cons.mpr ⟨lw_p16, List.forall_mem_cons.mpr ⟨lw_p17, List.forall_mem_cons.mpr ⟨lw_p18, List.forall_mem_cons.mpr ⟨lw_p19, List.forall_mem_cons.mpr ⟨lw_p20, List.forall_mem_cons.mpr ⟨lw_p21, List.forall_mem_cons.mpr ⟨lw_p22, List.forall_mem_cons.mpr ⟨lw_p23, List.forall_mem_cons.mpr ⟨lw_p24, List.forall_mem_cons.mpr ⟨lw_p25, List.forall_mem_cons.mpr ⟨lw_p26, List.forall_mem_cons.mpr ⟨lw_p27, List.forall_mem_cons.mpr ⟨lw_p28, List.forall_mem_cons.mpr ⟨lw_p29, List.forall_mem_cons.mpr ⟨lw_p30, List.forall_mem_cons.mpr ⟨lw_p31, fun _ h => absurd h List.not_mem_nil⟩⟩⟩⟩⟩⟩⟩⟩⟩⟩⟩⟩⟩⟩⟩⟩
theorem lw_p32 : lw_okq (⟨"WineFuturesModel", "calls", "()I"⟩, 16) := ⟨⟨by decide +kernel, by decide +kernel⟩, List.mem_of_getElem? (i := 665) (by decide +kernel), List.mem_of_getElem? (i := 973) (by decide +kernel), List.mem_of_getElem? (i := 974) (by decide +kernel)⟩
def lw_privs_3 : List (MethodName × Nat) := [(⟨"WineFuturesModel", "calls", "()I"⟩, 16)]
theorem lw_r3 : ∀ q ∈ lw_privs_3, lw_okq q := List.forall_mem_cons.mpr ⟨lw_p32, fun _ h => absurd h List.not_mem_nil⟩
def lw_privs : List (MethodName × Nat) := lw_privs_1 ++ (lw_privs_2 ++ (lw_privs_3))
def lw_tbl : List Cond := k2_sels lw_privs ++ tables_1
theorem lw_privs_ok : ∀ q ∈ lw_privs, lw_okq q := by
  show ∀ q ∈ lw_privs_1 ++ (lw_privs_2 ++ (lw_privs_3)), lw_okq q
  exact List.forall_mem_append.mpr ⟨lw_r1, List.forall_mem_append.mpr ⟨lw_r2, lw_r3⟩⟩
/-- the streams that the claim lets the run draw from -/
abbrev lw_cs : List Choice := [Jvm.Choice.named "NaN.bits"]
theorem lw_bits : nanBits ∈ lw_cs := by first | decide | exact List.mem_cons_self | simp [lw_cs, nanBits]
def RX0 : String := "WineFutures$Barrels"
def TX0 : u_T := fun k => match k with
  | 0 => ("WineFutures$Barrels", "wine", "[I", true)
  | 1 => ("WineFutures$Barrels", "number", "I", false)
  | _ => ("WineFutures$Barrels", "rate", "I", false)
def tyX0 : Nat → FieldType := fun k => match k with
  | 0 => .array .int
  | 1 => .int
  | _ => .int
abbrev wsX00 : List Cond := u_ws RX0 TX0 3
theorem nmX0 : ∀ a, a < 3 → ∀ b, b < 3 → a ≠ b → (TX0 a).2.1 ≠ (TX0 b).2.1 := by decide +kernel
theorem tyX0_ok : ∀ k, k < 3 → parseFieldDescriptor (TX0 k).2.2.1 = some (tyX0 k) := by decide +kernel
abbrev cX0_init : ByteArray := prog_2_method_1_code
def yX0_init : MethodName := ⟨RX0, "<init>", "()V"⟩
abbrev cX0_fill : ByteArray := prog_2_method_2_code
def yX0_fill : MethodName := ⟨RX0, "fill", "(II)V"⟩
abbrev cX0_copyBarrels : ByteArray := prog_2_method_3_code
def yX0_copyBarrels : MethodName := ⟨RX0, "copyBarrels", "(LWineFutures$Barrels;)V"⟩
abbrev cX0_casesBehind : ByteArray := prog_2_method_4_code
def yX0_casesBehind : MethodName := ⟨RX0, "casesBehind", "(I)I"⟩
abbrev cX0_lose : ByteArray := prog_2_method_5_code
def yX0_lose : MethodName := ⟨RX0, "lose", "(I)I"⟩
abbrev cX0_wineBehind : ByteArray := prog_2_method_6_code
def yX0_wineBehind : MethodName := ⟨RX0, "wineBehind", "(II)I"⟩
abbrev cX0_barrelForTasting : ByteArray := prog_2_method_7_code
def yX0_barrelForTasting : MethodName := ⟨RX0, "barrelForTasting", "()I"⟩
abbrev cX0_takeSip : ByteArray := prog_2_method_8_code
def yX0_takeSip : MethodName := ⟨RX0, "takeSip", "(I)V"⟩
abbrev cX0_leaveOut : ByteArray := prog_2_method_9_code
def yX0_leaveOut : MethodName := ⟨RX0, "leaveOut", "(I)V"⟩
abbrev cX0_canBeToppedUp : ByteArray := prog_2_method_10_code
def yX0_canBeToppedUp : MethodName := ⟨RX0, "canBeToppedUp", "()Z"⟩
abbrev cX0_topUp : ByteArray := prog_2_method_11_code
def yX0_topUp : MethodName := ⟨RX0, "topUp", "()V"⟩
def RX1 : String := "WineFutures$Book"
def TX1 : u_T := fun k => match k with
  | 0 => ("WineFutures$Book", "cells", "[I", true)
  | _ => ("WineFutures$Book", "entries", "I", false)
def tyX1 : Nat → FieldType := fun k => match k with
  | 0 => .array .int
  | _ => .int
abbrev wsX10 : List Cond := u_ws RX1 TX1 2
theorem nmX1 : ∀ a, a < 2 → ∀ b, b < 2 → a ≠ b → (TX1 a).2.1 ≠ (TX1 b).2.1 := by decide +kernel
theorem tyX1_ok : ∀ k, k < 2 → parseFieldDescriptor (TX1 k).2.2.1 = some (tyX1 k) := by decide +kernel
abbrev cX1_init : ByteArray := prog_3_method_1_code
def yX1_init : MethodName := ⟨RX1, "<init>", "()V"⟩
abbrev cX1_copyBook : ByteArray := prog_3_method_2_code
def yX1_copyBook : MethodName := ⟨RX1, "copyBook", "(LWineFutures$Book;)V"⟩
abbrev cX1_write : ByteArray := prog_3_method_3_code
def yX1_write : MethodName := ⟨RX1, "write", "(IIIIII)V"⟩
abbrev cX1_cell : ByteArray := prog_3_method_4_code
def yX1_cell : MethodName := ⟨RX1, "cell", "(II)I"⟩
def RX2 : String := "WineFutures$Estate"
def TX2 : u_T := fun k => match k with
  | 0 => ("WineFutures$Estate", "lots", "[LWineFutures$Lot;", true)
  | 1 => ("WineFutures$Estate", "accounts", "[I", true)
  | 2 => ("WineFutures$Estate", "book", "LWineFutures$Book;", true)
  | 3 => ("WineFutures$Estate", "forecast", "LWineFutures$Barrels;", true)
  | 4 => ("WineFutures$Estate", "lotCount", "I", false)
  | 5 => ("WineFutures$Estate", "buyerCount", "I", false)
  | 6 => ("WineFutures$Estate", "ownAccount", "I", false)
  | 7 => ("WineFutures$Estate", "margin", "I", false)
  | 8 => ("WineFutures$Estate", "horizon", "I", false)
  | 9 => ("WineFutures$Estate", "month", "I", false)
  | 10 => ("WineFutures$Estate", "lost", "I", false)
  | _ => ("WineFutures$Estate", "cut", "I", false)
def tyX2 : Nat → FieldType := fun k => match k with
  | 0 => .array (.object "WineFutures$Lot")
  | 1 => .array .int
  | 2 => .object "WineFutures$Book"
  | 3 => .object "WineFutures$Barrels"
  | 4 => .int
  | 5 => .int
  | 6 => .int
  | 7 => .int
  | 8 => .int
  | 9 => .int
  | 10 => .int
  | _ => .int
abbrev wsX20 : List Cond := u_ws RX2 TX2 12
theorem nmX2 : ∀ a, a < 12 → ∀ b, b < 12 → a ≠ b → (TX2 a).2.1 ≠ (TX2 b).2.1 := by decide +kernel
theorem tyX2_ok : ∀ k, k < 12 → parseFieldDescriptor (TX2 k).2.2.1 = some (tyX2 k) := by decide +kernel
abbrev cX2_init : ByteArray := prog_4_method_1_code
def yX2_init : MethodName := ⟨RX2, "<init>", "()V"⟩
abbrev cX2_copyEstate : ByteArray := prog_4_method_2_code
def yX2_copyEstate : MethodName := ⟨RX2, "copyEstate", "(LWineFutures$Estate;)V"⟩
abbrev cX2_lotAt : ByteArray := prog_4_method_3_code
def yX2_lotAt : MethodName := ⟨RX2, "lotAt", "(I)LWineFutures$Lot;"⟩
abbrev cX2_hasBuyer : ByteArray := prog_4_method_4_code
def yX2_hasBuyer : MethodName := ⟨RX2, "hasBuyer", "(I)Z"⟩
abbrev cX2_payEstate : ByteArray := prog_4_method_5_code
def yX2_payEstate : MethodName := ⟨RX2, "payEstate", "(II)V"⟩
abbrev cX2_addLot : ByteArray := prog_4_method_6_code
def yX2_addLot : MethodName := ⟨RX2, "addLot", "(II)I"⟩
abbrev cX2_tasteLot : ByteArray := prog_4_method_7_code
def yX2_tasteLot : MethodName := ⟨RX2, "tasteLot", "(II)I"⟩
abbrev cX2_topLot : ByteArray := prog_4_method_8_code
def yX2_topLot : MethodName := ⟨RX2, "topLot", "(I)I"⟩
abbrev cX2_passMonths : ByteArray := prog_4_method_9_code
def yX2_passMonths : MethodName := ⟨RX2, "passMonths", "(I)I"⟩
abbrev cX2_bottleLot : ByteArray := prog_4_method_10_code
def yX2_bottleLot : MethodName := ⟨RX2, "bottleLot", "(I)I"⟩
abbrev cX2_cutFutures : ByteArray := prog_4_method_11_code
def yX2_cutFutures : MethodName := ⟨RX2, "cutFutures", "(ILWineFutures$Lot;II)I"⟩
abbrev cX2_addBuyer : ByteArray := prog_4_method_12_code
def yX2_addBuyer : MethodName := ⟨RX2, "addBuyer", "()I"⟩
abbrev cX2_sellFutures : ByteArray := prog_4_method_13_code
def yX2_sellFutures : MethodName := ⟨RX2, "sellFutures", "(IIII)I"⟩
abbrev cX2_tradeFutures : ByteArray := prog_4_method_14_code
def yX2_tradeFutures : MethodName := ⟨RX2, "tradeFutures", "(IIIII)I"⟩
abbrev cX2_redeemFutures : ByteArray := prog_4_method_15_code
def yX2_redeemFutures : MethodName := ⟨RX2, "redeemFutures", "(III)I"⟩
abbrev cX2_changeSetting : ByteArray := prog_4_method_16_code
def yX2_changeSetting : MethodName := ⟨RX2, "changeSetting", "(II)I"⟩
abbrev cX2_lotValue : ByteArray := prog_4_method_17_code
def yX2_lotValue : MethodName := ⟨RX2, "lotValue", "(II)I"⟩
abbrev cX2_barrelValue : ByteArray := prog_4_method_18_code
def yX2_barrelValue : MethodName := ⟨RX2, "barrelValue", "(II)I"⟩
abbrev cX2_holdingValue : ByteArray := prog_4_method_19_code
def yX2_holdingValue : MethodName := ⟨RX2, "holdingValue", "(III)I"⟩
abbrev cX2_meanPaid : ByteArray := prog_4_method_20_code
def yX2_meanPaid : MethodName := ⟨RX2, "meanPaid", "(II)I"⟩
abbrev cX2_accountValue : ByteArray := prog_4_method_21_code
def yX2_accountValue : MethodName := ⟨RX2, "accountValue", "(I)I"⟩
abbrev cX2_number : ByteArray := prog_4_method_22_code
def yX2_number : MethodName := ⟨RX2, "number", "(I)I"⟩
abbrev cX2_totalOfLots : ByteArray := prog_4_method_23_code
def yX2_totalOfLots : MethodName := ⟨RX2, "totalOfLots", "(I)I"⟩
abbrev cX2_expectedCases : ByteArray := prog_4_method_24_code
def yX2_expectedCases : MethodName := ⟨RX2, "expectedCases", "(LWineFutures$Lot;)I"⟩
abbrev cX2_forecastCases : ByteArray := prog_4_method_25_code
def yX2_forecastCases : MethodName := ⟨RX2, "forecastCases", "(II)I"⟩
abbrev cX2_sellableFutures : ByteArray := prog_4_method_26_code
def yX2_sellableFutures : MethodName := ⟨RX2, "sellableFutures", "(I)I"⟩
abbrev cX2_monthsUntilTooFew : ByteArray := prog_4_method_27_code
def yX2_monthsUntilTooFew : MethodName := ⟨RX2, "monthsUntilTooFew", "(I)I"⟩
abbrev cX2_gainByTopping : ByteArray := prog_4_method_28_code
def yX2_gainByTopping : MethodName := ⟨RX2, "gainByTopping", "(I)I"⟩
abbrev cX2_greatestLoss : ByteArray := prog_4_method_29_code
def yX2_greatestLoss : MethodName := ⟨RX2, "greatestLoss", "(II)I"⟩
def RX3 : String := "WineFutures$History"
def TX3 : u_T := fun k => match k with
  | 0 => ("WineFutures$History", "rows", "[LWineFutures$Estate;", true)
  | 1 => ("WineFutures$History", "next", "I", false)
  | _ => ("WineFutures$History", "states", "I", false)
def tyX3 : Nat → FieldType := fun k => match k with
  | 0 => .array (.object "WineFutures$Estate")
  | 1 => .int
  | _ => .int
abbrev wsX30 : List Cond := u_ws RX3 TX3 3
theorem nmX3 : ∀ a, a < 3 → ∀ b, b < 3 → a ≠ b → (TX3 a).2.1 ≠ (TX3 b).2.1 := by decide +kernel
theorem tyX3_ok : ∀ k, k < 3 → parseFieldDescriptor (TX3 k).2.2.1 = some (tyX3 k) := by decide +kernel
abbrev cX3_init : ByteArray := prog_5_method_1_code
def yX3_init : MethodName := ⟨RX3, "<init>", "()V"⟩
abbrev cX3_draft : ByteArray := prog_5_method_2_code
def yX3_draft : MethodName := ⟨RX3, "draft", "(LWineFutures$Estate;)V"⟩
abbrev cX3_keepDraft : ByteArray := prog_5_method_3_code
def yX3_keepDraft : MethodName := ⟨RX3, "keepDraft", "()V"⟩
abbrev cX3_restore : ByteArray := prog_5_method_4_code
def yX3_restore : MethodName := ⟨RX3, "restore", "(LWineFutures$Estate;)I"⟩
abbrev cX3_nextRow : ByteArray := prog_5_method_5_code
def yX3_nextRow : MethodName := ⟨RX3, "nextRow", "()LWineFutures$Estate;"⟩
def RX4 : String := "WineFutures$Lot"
def TX4 : u_T := fun k => match k with
  | 0 => ("WineFutures$Lot", "barrels", "LWineFutures$Barrels;", true)
  | 1 => ("WineFutures$Lot", "held", "[I", true)
  | 2 => ("WineFutures$Lot", "paid", "[I", true)
  | 3 => ("WineFutures$Lot", "delivered", "[I", true)
  | 4 => ("WineFutures$Lot", "bottled", "Z", false)
  | 5 => ("WineFutures$Lot", "bottledCases", "I", false)
  | 6 => ("WineFutures$Lot", "scores", "I", false)
  | _ => ("WineFutures$Lot", "tastings", "I", false)
def tyX4 : Nat → FieldType := fun k => match k with
  | 0 => .object "WineFutures$Barrels"
  | 1 => .array .int
  | 2 => .array .int
  | 3 => .array .int
  | 4 => .boolean
  | 5 => .int
  | 6 => .int
  | _ => .int
abbrev wsX40 : List Cond := u_ws RX4 TX4 8
theorem nmX4 : ∀ a, a < 8 → ∀ b, b < 8 → a ≠ b → (TX4 a).2.1 ≠ (TX4 b).2.1 := by decide +kernel
theorem tyX4_ok : ∀ k, k < 8 → parseFieldDescriptor (TX4 k).2.2.1 = some (tyX4 k) := by decide +kernel
abbrev cX4_init : ByteArray := prog_6_method_1_code
def yX4_init : MethodName := ⟨RX4, "<init>", "()V"⟩
abbrev cX4_copyLot : ByteArray := prog_6_method_2_code
def yX4_copyLot : MethodName := ⟨RX4, "copyLot", "(LWineFutures$Lot;)V"⟩
abbrev cX4_quote : ByteArray := prog_6_method_3_code
def yX4_quote : MethodName := ⟨RX4, "quote", "()I"⟩
abbrev cX4_allHeld : ByteArray := prog_6_method_4_code
def yX4_allHeld : MethodName := ⟨RX4, "allHeld", "()I"⟩
abbrev cX4_allDelivered : ByteArray := prog_6_method_5_code
def yX4_allDelivered : MethodName := ⟨RX4, "allDelivered", "()I"⟩
abbrev cX4_casesNow : ByteArray := prog_6_method_6_code
def yX4_casesNow : MethodName := ⟨RX4, "casesNow", "()I"⟩
abbrev cX4_heldBy : ByteArray := prog_6_method_7_code
def yX4_heldBy : MethodName := ⟨RX4, "heldBy", "(I)I"⟩
abbrev cX4_paidBy : ByteArray := prog_6_method_8_code
def yX4_paidBy : MethodName := ⟨RX4, "paidBy", "(I)I"⟩
abbrev cX4_deliveredTo : ByteArray := prog_6_method_9_code
def yX4_deliveredTo : MethodName := ⟨RX4, "deliveredTo", "(I)I"⟩
abbrev cX4_give : ByteArray := prog_6_method_10_code
def yX4_give : MethodName := ⟨RX4, "give", "(III)V"⟩
abbrev cX4_takeBack : ByteArray := prog_6_method_11_code
def yX4_takeBack : MethodName := ⟨RX4, "takeBack", "(II)I"⟩
abbrev cX4_deliver : ByteArray := prog_6_method_12_code
def yX4_deliver : MethodName := ⟨RX4, "deliver", "(II)V"⟩
abbrev cX4_cutOf : ByteArray := prog_6_method_13_code
def yX4_cutOf : MethodName := ⟨RX4, "cutOf", "(III)I"⟩
abbrev cX4_fillBottles : ByteArray := prog_6_method_14_code
def yX4_fillBottles : MethodName := ⟨RX4, "fillBottles", "()V"⟩
def RX5 : String := "WineFutures$Orders"
def TX5 : u_T := fun k => match k with
  | 0 => ("WineFutures$Orders", "signs", "[I", true)
  | 1 => ("WineFutures$Orders", "numbers", "[I", true)
  | 2 => ("WineFutures$Orders", "length", "I", false)
  | 3 => ("WineFutures$Orders", "kind", "I", false)
  | _ => ("WineFutures$Orders", "place", "I", false)
def tyX5 : Nat → FieldType := fun k => match k with
  | 0 => .array .int
  | 1 => .array .int
  | 2 => .int
  | 3 => .int
  | _ => .int
abbrev wsX50 : List Cond := u_ws RX5 TX5 5
theorem nmX5 : ∀ a, a < 5 → ∀ b, b < 5 → a ≠ b → (TX5 a).2.1 ≠ (TX5 b).2.1 := by decide +kernel
theorem tyX5_ok : ∀ k, k < 5 → parseFieldDescriptor (TX5 k).2.2.1 = some (tyX5 k) := by decide +kernel
abbrev cX5_init : ByteArray := prog_7_method_1_code
def yX5_init : MethodName := ⟨RX5, "<init>", "()V"⟩
abbrev cX5_append : ByteArray := prog_7_method_2_code
def yX5_append : MethodName := ⟨RX5, "append", "(I)I"⟩
abbrev cX5_empty : ByteArray := prog_7_method_3_code
def yX5_empty : MethodName := ⟨RX5, "empty", "()I"⟩
abbrev cX5_sign : ByteArray := prog_7_method_4_code
def yX5_sign : MethodName := ⟨RX5, "sign", "()I"⟩
abbrev cX5_numberAt : ByteArray := prog_7_method_5_code
def yX5_numberAt : MethodName := ⟨RX5, "numberAt", "(I)I"⟩
abbrev cX5_read : ByteArray := prog_7_method_6_code
def yX5_read : MethodName := ⟨RX5, "read", "(I)Z"⟩
abbrev cX5_numbersOf : ByteArray := prog_7_method_7_code
def yX5_numbersOf : MethodName := ⟨RX5, "numbersOf", "(I)I"⟩
abbrev cX5_readNumber : ByteArray := prog_7_method_8_code
def yX5_readNumber : MethodName := ⟨RX5, "readNumber", "(I)Z"⟩
def RX6 : String := "WineFutures$Trial"
def TX6 : u_T := fun k => match k with
  | 0 => ("WineFutures$Trial", "estate", "LWineFutures$Estate;", true)
  | 1 => ("WineFutures$Trial", "orders", "I", false)
  | 2 => ("WineFutures$Trial", "position", "I", false)
  | 3 => ("WineFutures$Trial", "reason", "I", false)
  | _ => ("WineFutures$Trial", "cause", "I", false)
def tyX6 : Nat → FieldType := fun k => match k with
  | 0 => .object "WineFutures$Estate"
  | 1 => .int
  | 2 => .int
  | 3 => .int
  | _ => .int
abbrev wsX60 : List Cond := u_ws RX6 TX6 5
theorem nmX6 : ∀ a, a < 5 → ∀ b, b < 5 → a ≠ b → (TX6 a).2.1 ≠ (TX6 b).2.1 := by decide +kernel
theorem tyX6_ok : ∀ k, k < 5 → parseFieldDescriptor (TX6 k).2.2.1 = some (tyX6 k) := by decide +kernel
abbrev cX6_init : ByteArray := prog_8_method_1_code
def yX6_init : MethodName := ⟨RX6, "<init>", "()V"⟩
abbrev cX6_run : ByteArray := prog_8_method_2_code
def yX6_run : MethodName := ⟨RX6, "run", "(LWineFutures$Orders;LWineFutures$Estate;)V"⟩
abbrev cX6_answerOf : ByteArray := prog_8_method_3_code
def yX6_answerOf : MethodName := ⟨RX6, "answerOf", "(LWineFutures$Orders;)I"⟩
abbrev cX6_blame : ByteArray := prog_8_method_4_code
def yX6_blame : MethodName := ⟨RX6, "blame", "(III)V"⟩
def RX7 : String := "WineFutures"
def TX7 : u_T := fun k => match k with
  | 0 => ("WineFutures", "now", "LWineFutures$Estate;", true)
  | 1 => ("WineFutures", "history", "LWineFutures$History;", true)
  | 2 => ("WineFutures", "text", "LWineFutures$Orders;", true)
  | _ => ("WineFutures", "trial", "LWineFutures$Trial;", true)
def tyX7 : Nat → FieldType := fun k => match k with
  | 0 => .object "WineFutures$Estate"
  | 1 => .object "WineFutures$History"
  | 2 => .object "WineFutures$Orders"
  | _ => .object "WineFutures$Trial"
abbrev wsX70 : List Cond := u_ws RX7 TX7 4
theorem nmX7 : ∀ a, a < 4 → ∀ b, b < 4 → a ≠ b → (TX7 a).2.1 ≠ (TX7 b).2.1 := by decide +kernel
theorem tyX7_ok : ∀ k, k < 4 → parseFieldDescriptor (TX7 k).2.2.1 = some (tyX7 k) := by decide +kernel
abbrev cX7_init : ByteArray := prog_1_method_1_code
def yX7_init : MethodName := ⟨RX7, "<init>", "()V"⟩
abbrev cX7_lot : ByteArray := prog_1_method_2_code
def yX7_lot : MethodName := ⟨RX7, "lot", "(II)I"⟩
abbrev cX7_taste : ByteArray := prog_1_method_3_code
def yX7_taste : MethodName := ⟨RX7, "taste", "(II)I"⟩
abbrev cX7_top : ByteArray := prog_1_method_4_code
def yX7_top : MethodName := ⟨RX7, "top", "(I)I"⟩
abbrev cX7_pass : ByteArray := prog_1_method_5_code
def yX7_pass : MethodName := ⟨RX7, "pass", "(I)I"⟩
abbrev cX7_bottle : ByteArray := prog_1_method_6_code
def yX7_bottle : MethodName := ⟨RX7, "bottle", "(I)I"⟩
abbrev cX7_buyer : ByteArray := prog_1_method_7_code
def yX7_buyer : MethodName := ⟨RX7, "buyer", "()I"⟩
abbrev cX7_sell : ByteArray := prog_1_method_8_code
def yX7_sell : MethodName := ⟨RX7, "sell", "(IIII)I"⟩
abbrev cX7_trade : ByteArray := prog_1_method_9_code
def yX7_trade : MethodName := ⟨RX7, "trade", "(IIIII)I"⟩
abbrev cX7_redeem : ByteArray := prog_1_method_10_code
def yX7_redeem : MethodName := ⟨RX7, "redeem", "(III)I"⟩
abbrev cX7_set : ByteArray := prog_1_method_11_code
def yX7_set : MethodName := ⟨RX7, "set", "(II)I"⟩
abbrev cX7_lotOf : ByteArray := prog_1_method_12_code
def yX7_lotOf : MethodName := ⟨RX7, "lotOf", "(II)I"⟩
abbrev cX7_barrel : ByteArray := prog_1_method_13_code
def yX7_barrel : MethodName := ⟨RX7, "barrel", "(II)I"⟩
abbrev cX7_holding : ByteArray := prog_1_method_14_code
def yX7_holding : MethodName := ⟨RX7, "holding", "(III)I"⟩
abbrev cX7_account : ByteArray := prog_1_method_15_code
def yX7_account : MethodName := ⟨RX7, "account", "(I)I"⟩
abbrev cX7_entry : ByteArray := prog_1_method_16_code
def yX7_entry : MethodName := ⟨RX7, "entry", "(II)I"⟩
abbrev cX7_cases : ByteArray := prog_1_method_17_code
def yX7_cases : MethodName := ⟨RX7, "cases", "(II)I"⟩
abbrev cX7_sellable : ByteArray := prog_1_method_18_code
def yX7_sellable : MethodName := ⟨RX7, "sellable", "(I)I"⟩
abbrev cX7_deadline : ByteArray := prog_1_method_19_code
def yX7_deadline : MethodName := ⟨RX7, "deadline", "(I)I"⟩
abbrev cX7_topping : ByteArray := prog_1_method_20_code
def yX7_topping : MethodName := ⟨RX7, "topping", "(I)I"⟩
abbrev cX7_loser : ByteArray := prog_1_method_21_code
def yX7_loser : MethodName := ⟨RX7, "loser", "(II)I"⟩
abbrev cX7_count : ByteArray := prog_1_method_22_code
def yX7_count : MethodName := ⟨RX7, "count", "(I)I"⟩
abbrev cX7_undo : ByteArray := prog_1_method_23_code
def yX7_undo : MethodName := ⟨RX7, "undo", "()I"⟩
abbrev cX7_type : ByteArray := prog_1_method_24_code
def yX7_type : MethodName := ⟨RX7, "type", "(I)I"⟩
abbrev cX7_clearText : ByteArray := prog_1_method_25_code
def yX7_clearText : MethodName := ⟨RX7, "clearText", "()I"⟩
abbrev cX7_fault : ByteArray := prog_1_method_26_code
def yX7_fault : MethodName := ⟨RX7, "fault", "(I)I"⟩
abbrev cX7_play : ByteArray := prog_1_method_27_code
def yX7_play : MethodName := ⟨RX7, "play", "()I"⟩
abbrev cX7_settled : ByteArray := prog_1_method_28_code
def yX7_settled : MethodName := ⟨RX7, "settled", "(I)I"⟩
abbrev cX7_within : ByteArray := prog_1_method_29_code
def yX7_within : MethodName := ⟨RX7, "within", "(III)Z"⟩
abbrev cX7_share : ByteArray := prog_1_method_30_code
def yX7_share : MethodName := ⟨RX7, "share", "(III)I"⟩
abbrev cX7_sum : ByteArray := prog_1_method_31_code
def yX7_sum : MethodName := ⟨RX7, "sum", "([I)I"⟩
abbrev cX7_copyRow : ByteArray := prog_1_method_32_code
def yX7_copyRow : MethodName := ⟨RX7, "copyRow", "([I[I)V"⟩
abbrev cX7_floatBits : ByteArray := prog_1_method_33_code
def yX7_floatBits : MethodName := ⟨RX7, "floatBits", "(F)I"⟩
def RX8 : String := "WineFuturesModel"
def TX8 : u_T := fun k => match k with
  | 0 => ("WineFuturesModel", "s", "[I", true)
  | 1 => ("WineFuturesModel", "past", "[I", true)
  | 2 => ("WineFuturesModel", "held", "[I", true)
  | 3 => ("WineFuturesModel", "pasts", "I", false)
  | 4 => ("WineFuturesModel", "runs", "Z", false)
  | 5 => ("WineFuturesModel", "text", "[I", true)
  | 6 => ("WineFuturesModel", "typed", "I", false)
  | 7 => ("WineFuturesModel", "wine", "[I", true)
  | 8 => ("WineFuturesModel", "barrels", "I", false)
  | 9 => ("WineFuturesModel", "spot", "I", false)
  | 10 => ("WineFuturesModel", "from", "I", false)
  | 11 => ("WineFuturesModel", "reason", "I", false)
  | 12 => ("WineFuturesModel", "cause", "I", false)
  | 13 => ("WineFuturesModel", "orders", "I", false)
  | 14 => ("WineFuturesModel", "order", "I", false)
  | _ => ("WineFuturesModel", "told", "[I", true)
def tyX8 : Nat → FieldType := fun k => match k with
  | 0 => .array .int
  | 1 => .array .int
  | 2 => .array .int
  | 3 => .int
  | 4 => .boolean
  | 5 => .array .int
  | 6 => .int
  | 7 => .array .int
  | 8 => .int
  | 9 => .int
  | 10 => .int
  | 11 => .int
  | 12 => .int
  | 13 => .int
  | 14 => .int
  | _ => .array .int
abbrev wsX80 : List Cond := u_ws RX8 TX8 16
theorem nmX8 : ∀ a, a < 16 → ∀ b, b < 16 → a ≠ b → (TX8 a).2.1 ≠ (TX8 b).2.1 := by decide +kernel
theorem tyX8_ok : ∀ k, k < 16 → parseFieldDescriptor (TX8 k).2.2.1 = some (tyX8 k) := by decide +kernel
abbrev cX8_init : ByteArray := prog_10_method_1_code
def yX8_init : MethodName := ⟨RX8, "<init>", "()V"⟩
abbrev cX8_in : ByteArray := prog_10_method_3_code
def yX8_in : MethodName := ⟨RX8, "in", "(III)Z"⟩
abbrev cX8_copies : ByteArray := prog_10_method_4_code
def yX8_copies : MethodName := ⟨RX8, "copies", "([I[I)V"⟩
abbrev cX8_changes : ByteArray := prog_10_method_5_code
def yX8_changes : MethodName := ⟨RX8, "changes", "()V"⟩
abbrev cX8_isLot : ByteArray := prog_10_method_6_code
def yX8_isLot : MethodName := ⟨RX8, "isLot", "(I)Z"⟩
abbrev cX8_isBuyer : ByteArray := prog_10_method_7_code
def yX8_isBuyer : MethodName := ⟨RX8, "isBuyer", "(I)Z"⟩
abbrev cX8_of : ByteArray := prog_10_method_8_code
def yX8_of : MethodName := ⟨RX8, "of", "(II)I"⟩
abbrev cX8_isOpen : ByteArray := prog_10_method_9_code
def yX8_isOpen : MethodName := ⟨RX8, "isOpen", "(I)Z"⟩
abbrev cX8_hold : ByteArray := prog_10_method_10_code
def yX8_hold : MethodName := ⟨RX8, "hold", "(III)I"⟩
abbrev cX8_holds : ByteArray := prog_10_method_11_code
def yX8_holds : MethodName := ⟨RX8, "holds", "(II)I"⟩
abbrev cX8_allHeld : ByteArray := prog_10_method_12_code
def yX8_allHeld : MethodName := ⟨RX8, "allHeld", "(I)I"⟩
abbrev cX8_loads : ByteArray := prog_10_method_13_code
def yX8_loads : MethodName := ⟨RX8, "loads", "(I)V"⟩
abbrev cX8_lays : ByteArray := prog_10_method_14_code
def yX8_lays : MethodName := ⟨RX8, "lays", "(I)V"⟩
abbrev cX8_all : ByteArray := prog_10_method_15_code
def yX8_all : MethodName := ⟨RX8, "all", "()I"⟩
abbrev cX8_leaves : ByteArray := prog_10_method_16_code
def yX8_leaves : MethodName := ⟨RX8, "leaves", "()V"⟩
abbrev cX8_month : ByteArray := prog_10_method_17_code
def yX8_month : MethodName := ⟨RX8, "month", "(I)I"⟩
abbrev cX8_casesIn : ByteArray := prog_10_method_18_code
def yX8_casesIn : MethodName := ⟨RX8, "casesIn", "(II)I"⟩
abbrev cX8_expected : ByteArray := prog_10_method_19_code
def yX8_expected : MethodName := ⟨RX8, "expected", "(I)I"⟩
abbrev cX8_needy : ByteArray := prog_10_method_20_code
def yX8_needy : MethodName := ⟨RX8, "needy", "()I"⟩
abbrev cX8_tops : ByteArray := prog_10_method_21_code
def yX8_tops : MethodName := ⟨RX8, "tops", "()V"⟩
abbrev cX8_lot : ByteArray := prog_10_method_22_code
def yX8_lot : MethodName := ⟨RX8, "lot", "(II)I"⟩
abbrev cX8_quote : ByteArray := prog_10_method_23_code
def yX8_quote : MethodName := ⟨RX8, "quote", "(I)I"⟩
abbrev cX8_tasted : ByteArray := prog_10_method_24_code
def yX8_tasted : MethodName := ⟨RX8, "tasted", "()I"⟩
abbrev cX8_taste : ByteArray := prog_10_method_25_code
def yX8_taste : MethodName := ⟨RX8, "taste", "(II)I"⟩
abbrev cX8_top : ByteArray := prog_10_method_26_code
def yX8_top : MethodName := ⟨RX8, "top", "(I)I"⟩
abbrev cX8_passes : ByteArray := prog_10_method_27_code
def yX8_passes : MethodName := ⟨RX8, "passes", "()I"⟩
abbrev cX8_pass : ByteArray := prog_10_method_28_code
def yX8_pass : MethodName := ⟨RX8, "pass", "(I)I"⟩
abbrev cX8_enters : ByteArray := prog_10_method_29_code
def yX8_enters : MethodName := ⟨RX8, "enters", "(IIIIII)V"⟩
abbrev cX8_goes : ByteArray := prog_10_method_30_code
def yX8_goes : MethodName := ⟨RX8, "goes", "(III)I"⟩
abbrev cX8_wouldCut : ByteArray := prog_10_method_31_code
def yX8_wouldCut : MethodName := ⟨RX8, "wouldCut", "(IIII)I"⟩
abbrev cX8_bottle : ByteArray := prog_10_method_32_code
def yX8_bottle : MethodName := ⟨RX8, "bottle", "(I)I"⟩
abbrev cX8_buyer : ByteArray := prog_10_method_33_code
def yX8_buyer : MethodName := ⟨RX8, "buyer", "()I"⟩
abbrev cX8_areCases : ByteArray := prog_10_method_34_code
def yX8_areCases : MethodName := ⟨RX8, "areCases", "(II)Z"⟩
abbrev cX8_comes : ByteArray := prog_10_method_35_code
def yX8_comes : MethodName := ⟨RX8, "comes", "(IIIII)V"⟩
abbrev cX8_sell : ByteArray := prog_10_method_36_code
def yX8_sell : MethodName := ⟨RX8, "sell", "(IIII)I"⟩
abbrev cX8_trade : ByteArray := prog_10_method_37_code
def yX8_trade : MethodName := ⟨RX8, "trade", "(IIIII)I"⟩
abbrev cX8_redeem : ByteArray := prog_10_method_38_code
def yX8_redeem : MethodName := ⟨RX8, "redeem", "(III)I"⟩
abbrev cX8_set : ByteArray := prog_10_method_39_code
def yX8_set : MethodName := ⟨RX8, "set", "(II)I"⟩
abbrev cX8_lotOf : ByteArray := prog_10_method_40_code
def yX8_lotOf : MethodName := ⟨RX8, "lotOf", "(II)I"⟩
abbrev cX8_barrel : ByteArray := prog_10_method_41_code
def yX8_barrel : MethodName := ⟨RX8, "barrel", "(II)I"⟩
abbrev cX8_mean : ByteArray := prog_10_method_42_code
def yX8_mean : MethodName := ⟨RX8, "mean", "(II)I"⟩
abbrev cX8_holding : ByteArray := prog_10_method_43_code
def yX8_holding : MethodName := ⟨RX8, "holding", "(III)I"⟩
abbrev cX8_account : ByteArray := prog_10_method_44_code
def yX8_account : MethodName := ⟨RX8, "account", "(I)I"⟩
abbrev cX8_entry : ByteArray := prog_10_method_45_code
def yX8_entry : MethodName := ⟨RX8, "entry", "(II)I"⟩
abbrev cX8_cases : ByteArray := prog_10_method_46_code
def yX8_cases : MethodName := ⟨RX8, "cases", "(II)I"⟩
abbrev cX8_sellable : ByteArray := prog_10_method_47_code
def yX8_sellable : MethodName := ⟨RX8, "sellable", "(I)I"⟩
abbrev cX8_deadline : ByteArray := prog_10_method_48_code
def yX8_deadline : MethodName := ⟨RX8, "deadline", "(I)I"⟩
abbrev cX8_topping : ByteArray := prog_10_method_49_code
def yX8_topping : MethodName := ⟨RX8, "topping", "(I)I"⟩
abbrev cX8_loser : ByteArray := prog_10_method_50_code
def yX8_loser : MethodName := ⟨RX8, "loser", "(II)I"⟩
abbrev cX8_accounts : ByteArray := prog_10_method_51_code
def yX8_accounts : MethodName := ⟨RX8, "accounts", "()I"⟩
abbrev cX8_ofLots : ByteArray := prog_10_method_52_code
def yX8_ofLots : MethodName := ⟨RX8, "ofLots", "(Z)I"⟩
abbrev cX8_count : ByteArray := prog_10_method_53_code
def yX8_count : MethodName := ⟨RX8, "count", "(I)I"⟩
abbrev cX8_undo : ByteArray := prog_10_method_54_code
def yX8_undo : MethodName := ⟨RX8, "undo", "()I"⟩
abbrev cX8_type : ByteArray := prog_10_method_55_code
def yX8_type : MethodName := ⟨RX8, "type", "(I)I"⟩
abbrev cX8_clearText : ByteArray := prog_10_method_56_code
def yX8_clearText : MethodName := ⟨RX8, "clearText", "()I"⟩
abbrev cX8_isAt : ByteArray := prog_10_method_57_code
def yX8_isAt : MethodName := ⟨RX8, "isAt", "(II)Z"⟩
abbrev cX8_sign : ByteArray := prog_10_method_58_code
def yX8_sign : MethodName := ⟨RX8, "sign", "(I)Z"⟩
abbrev cX8_number : ByteArray := prog_10_method_59_code
def yX8_number : MethodName := ⟨RX8, "number", "(I)Z"⟩
abbrev cX8_numbersOf : ByteArray := prog_10_method_60_code
def yX8_numbersOf : MethodName := ⟨RX8, "numbersOf", "(I)I"⟩
abbrev cX8_reads : ByteArray := prog_10_method_61_code
def yX8_reads : MethodName := ⟨RX8, "reads", "()Z"⟩
abbrev cX8_calls : ByteArray := prog_10_method_62_code
def yX8_calls : MethodName := ⟨RX8, "calls", "()I"⟩
abbrev cX8_plays : ByteArray := prog_10_method_63_code
def yX8_plays : MethodName := ⟨RX8, "plays", "()Z"⟩
abbrev cX8_fault : ByteArray := prog_10_method_64_code
def yX8_fault : MethodName := ⟨RX8, "fault", "(I)I"⟩
abbrev cX8_play : ByteArray := prog_10_method_65_code
def yX8_play : MethodName := ⟨RX8, "play", "()I"⟩
def RJxf58ca : String := "java/lang/Float"
def TJxf58ca : u_T := fun k => match k with
  | _ => ("", "", "", false)
def tyJxf58ca : Nat → FieldType := fun k => match k with
  | _ => .int
abbrev wsJxf58ca0 : List Cond := u_ws RJxf58ca TJxf58ca 0
theorem nmJxf58ca : ∀ a, a < 0 → ∀ b, b < 0 → a ≠ b → (TJxf58ca a).2.1 ≠ (TJxf58ca b).2.1 := by decide +kernel
theorem tyJxf58ca_ok : ∀ k, k < 0 → parseFieldDescriptor (TJxf58ca k).2.2.1 = some (tyJxf58ca k) := by decide +kernel
abbrev cJxf58ca_isNaN_12338 : ByteArray := prog_11_method_6_code
def yJxf58ca_isNaN_12338 : MethodName := ⟨RJxf58ca, "isNaN", "(F)Z"⟩
abbrev cJxf58ca_floatToIntBits_5c35a : ByteArray := prog_11_method_24_code
def yJxf58ca_floatToIntBits_5c35a : MethodName := ⟨RJxf58ca, "floatToIntBits", "(F)I"⟩
def RJ9 : String := "java/lang/Math"
def TJ9 : u_T := fun k => match k with
  | _ => ("", "", "", false)
def tyJ9 : Nat → FieldType := fun k => match k with
  | _ => .int
abbrev wsJ90 : List Cond := u_ws RJ9 TJ9 0
theorem nmJ9 : ∀ a, a < 0 → ∀ b, b < 0 → a ≠ b → (TJ9 a).2.1 ≠ (TJ9 b).2.1 := by decide +kernel
theorem tyJ9_ok : ∀ k, k < 0 → parseFieldDescriptor (TJ9 k).2.2.1 = some (tyJ9 k) := by decide +kernel
abbrev cJ9_max_7cf53 : ByteArray := prog_12_method_65_code
def yJ9_max_7cf53 : MethodName := ⟨RJ9, "max", "(II)I"⟩
abbrev cJ9_min_7cf53 : ByteArray := prog_12_method_69_code
def yJ9_min_7cf53 : MethodName := ⟨RJ9, "min", "(II)I"⟩
def RL : String := "WineFuturesLaw"
abbrev cL_law : ByteArray := code
def yL_law : MethodName := ⟨RL, "law", "([I)Z"⟩
abbrev vwCl : List vw_C := [(RX0, TX0, 3), (RX1, TX1, 2), (RX2, TX2, 12), (RX3, TX3, 3), (RX4, TX4, 8), (RX5, TX5, 5), (RX6, TX6, 5), (RX7, TX7, 4), (RX8, TX8, 16)]
/-- a method: its class, name, code, locals, return, and how deep its calls go -/
abbrev mm_M : Type := String × MethodName × ByteArray × Nat × Option FieldType × Nat
def mX0_init : mm_M := (RX0, yX0_init, cX0_init, 1, none, 1)
def mX0_fill : mm_M := (RX0, yX0_fill, cX0_fill, 4, none, 0)
def mX0_copyBarrels : mm_M := (RX0, yX0_copyBarrels, cX0_copyBarrels, 2, none, 1)
def mX0_casesBehind : mm_M := (RX0, yX0_casesBehind, cX0_casesBehind, 4, some (.int), 1)
def mX0_lose : mm_M := (RX0, yX0_lose, cX0_lose, 5, some (.int), 1)
def mX0_wineBehind : mm_M := (RX0, yX0_wineBehind, cX0_wineBehind, 6, some (.int), 0)
def mX0_barrelForTasting : mm_M := (RX0, yX0_barrelForTasting, cX0_barrelForTasting, 2, some (.int), 0)
def mX0_takeSip : mm_M := (RX0, yX0_takeSip, cX0_takeSip, 2, none, 1)
def mX0_leaveOut : mm_M := (RX0, yX0_leaveOut, cX0_leaveOut, 3, none, 0)
def mX0_canBeToppedUp : mm_M := (RX0, yX0_canBeToppedUp, cX0_canBeToppedUp, 2, some (.boolean), 0)
def mX0_topUp : mm_M := (RX0, yX0_topUp, cX0_topUp, 5, none, 1)
def mX1_init : mm_M := (RX1, yX1_init, cX1_init, 1, none, 1)
def mX1_copyBook : mm_M := (RX1, yX1_copyBook, cX1_copyBook, 2, none, 1)
def mX1_write : mm_M := (RX1, yX1_write, cX1_write, 8, none, 0)
def mX1_cell : mm_M := (RX1, yX1_cell, cX1_cell, 3, some (.int), 1)
def mX2_init : mm_M := (RX2, yX2_init, cX2_init, 2, none, 3)
def mX2_copyEstate : mm_M := (RX2, yX2_copyEstate, cX2_copyEstate, 5, none, 3)
def mX2_lotAt : mm_M := (RX2, yX2_lotAt, cX2_lotAt, 2, some (.object "WineFutures$Lot"), 0)
def mX2_hasBuyer : mm_M := (RX2, yX2_hasBuyer, cX2_hasBuyer, 2, some (.boolean), 0)
def mX2_payEstate : mm_M := (RX2, yX2_payEstate, cX2_payEstate, 3, none, 1)
def mX2_addLot : mm_M := (RX2, yX2_addLot, cX2_addLot, 4, some (.int), 1)
def mX2_tasteLot : mm_M := (RX2, yX2_tasteLot, cX2_tasteLot, 5, some (.int), 2)
def mX2_topLot : mm_M := (RX2, yX2_topLot, cX2_topLot, 3, some (.int), 2)
def mX2_passMonths : mm_M := (RX2, yX2_passMonths, cX2_passMonths, 5, some (.int), 2)
def mX2_bottleLot : mm_M := (RX2, yX2_bottleLot, cX2_bottleLot, 6, some (.int), 3)
def mX2_cutFutures : mm_M := (RX2, yX2_cutFutures, cX2_cutFutures, 7, some (.int), 2)
def mX2_addBuyer : mm_M := (RX2, yX2_addBuyer, cX2_addBuyer, 1, some (.int), 0)
def mX2_sellFutures : mm_M := (RX2, yX2_sellFutures, cX2_sellFutures, 6, some (.int), 3)
def mX2_tradeFutures : mm_M := (RX2, yX2_tradeFutures, cX2_tradeFutures, 7, some (.int), 2)
def mX2_redeemFutures : mm_M := (RX2, yX2_redeemFutures, cX2_redeemFutures, 5, some (.int), 3)
def mX2_changeSetting : mm_M := (RX2, yX2_changeSetting, cX2_changeSetting, 4, some (.int), 1)
def mX2_lotValue : mm_M := (RX2, yX2_lotValue, cX2_lotValue, 4, some (.int), 3)
def mX2_barrelValue : mm_M := (RX2, yX2_barrelValue, cX2_barrelValue, 4, some (.int), 1)
def mX2_holdingValue : mm_M := (RX2, yX2_holdingValue, cX2_holdingValue, 5, some (.int), 2)
def mX2_meanPaid : mm_M := (RX2, yX2_meanPaid, cX2_meanPaid, 3, some (.int), 1)
def mX2_accountValue : mm_M := (RX2, yX2_accountValue, cX2_accountValue, 2, some (.int), 1)
def mX2_number : mm_M := (RX2, yX2_number, cX2_number, 2, some (.int), 5)
def mX2_totalOfLots : mm_M := (RX2, yX2_totalOfLots, cX2_totalOfLots, 4, some (.int), 4)
def mX2_expectedCases : mm_M := (RX2, yX2_expectedCases, cX2_expectedCases, 2, some (.int), 2)
def mX2_forecastCases : mm_M := (RX2, yX2_forecastCases, cX2_forecastCases, 4, some (.int), 2)
def mX2_sellableFutures : mm_M := (RX2, yX2_sellableFutures, cX2_sellableFutures, 3, some (.int), 3)
def mX2_monthsUntilTooFew : mm_M := (RX2, yX2_monthsUntilTooFew, cX2_monthsUntilTooFew, 5, some (.int), 2)
def mX2_gainByTopping : mm_M := (RX2, yX2_gainByTopping, cX2_gainByTopping, 3, some (.int), 2)
def mX2_greatestLoss : mm_M := (RX2, yX2_greatestLoss, cX2_greatestLoss, 8, some (.int), 3)
def mX3_init : mm_M := (RX3, yX3_init, cX3_init, 2, none, 4)
def mX3_draft : mm_M := (RX3, yX3_draft, cX3_draft, 3, none, 4)
def mX3_keepDraft : mm_M := (RX3, yX3_keepDraft, cX3_keepDraft, 1, none, 1)
def mX3_restore : mm_M := (RX3, yX3_restore, cX3_restore, 3, some (.int), 4)
def mX3_nextRow : mm_M := (RX3, yX3_nextRow, cX3_nextRow, 1, some (.object "WineFutures$Estate"), 0)
def mX4_init : mm_M := (RX4, yX4_init, cX4_init, 1, none, 2)
def mX4_copyLot : mm_M := (RX4, yX4_copyLot, cX4_copyLot, 2, none, 2)
def mX4_quote : mm_M := (RX4, yX4_quote, cX4_quote, 2, some (.int), 0)
def mX4_allHeld : mm_M := (RX4, yX4_allHeld, cX4_allHeld, 1, some (.int), 1)
def mX4_allDelivered : mm_M := (RX4, yX4_allDelivered, cX4_allDelivered, 1, some (.int), 1)
def mX4_casesNow : mm_M := (RX4, yX4_casesNow, cX4_casesNow, 1, some (.int), 2)
def mX4_heldBy : mm_M := (RX4, yX4_heldBy, cX4_heldBy, 2, some (.int), 0)
def mX4_paidBy : mm_M := (RX4, yX4_paidBy, cX4_paidBy, 2, some (.int), 0)
def mX4_deliveredTo : mm_M := (RX4, yX4_deliveredTo, cX4_deliveredTo, 2, some (.int), 0)
def mX4_give : mm_M := (RX4, yX4_give, cX4_give, 4, none, 0)
def mX4_takeBack : mm_M := (RX4, yX4_takeBack, cX4_takeBack, 4, some (.int), 1)
def mX4_deliver : mm_M := (RX4, yX4_deliver, cX4_deliver, 3, none, 2)
def mX4_cutOf : mm_M := (RX4, yX4_cutOf, cX4_cutOf, 4, some (.int), 1)
def mX4_fillBottles : mm_M := (RX4, yX4_fillBottles, cX4_fillBottles, 1, none, 2)
def mX5_init : mm_M := (RX5, yX5_init, cX5_init, 1, none, 1)
def mX5_append : mm_M := (RX5, yX5_append, cX5_append, 2, some (.int), 1)
def mX5_empty : mm_M := (RX5, yX5_empty, cX5_empty, 2, some (.int), 0)
def mX5_sign : mm_M := (RX5, yX5_sign, cX5_sign, 1, some (.int), 0)
def mX5_numberAt : mm_M := (RX5, yX5_numberAt, cX5_numberAt, 2, some (.int), 0)
def mX5_read : mm_M := (RX5, yX5_read, cX5_read, 5, some (.boolean), 2)
def mX5_numbersOf : mm_M := (RX5, yX5_numbersOf, cX5_numbersOf, 2, some (.int), 0)
def mX5_readNumber : mm_M := (RX5, yX5_readNumber, cX5_readNumber, 4, some (.boolean), 1)
def mX6_init : mm_M := (RX6, yX6_init, cX6_init, 1, none, 4)
def mX6_run : mm_M := (RX6, yX6_run, cX6_run, 7, none, 5)
def mX6_answerOf : mm_M := (RX6, yX6_answerOf, cX6_answerOf, 4, some (.int), 4)
def mX6_blame : mm_M := (RX6, yX6_blame, cX6_blame, 4, none, 0)
def mX7_init : mm_M := (RX7, yX7_init, cX7_init, 1, none, 5)
def mX7_lot : mm_M := (RX7, yX7_lot, cX7_lot, 3, some (.int), 5)
def mX7_taste : mm_M := (RX7, yX7_taste, cX7_taste, 3, some (.int), 5)
def mX7_top : mm_M := (RX7, yX7_top, cX7_top, 2, some (.int), 5)
def mX7_pass : mm_M := (RX7, yX7_pass, cX7_pass, 2, some (.int), 5)
def mX7_bottle : mm_M := (RX7, yX7_bottle, cX7_bottle, 2, some (.int), 5)
def mX7_buyer : mm_M := (RX7, yX7_buyer, cX7_buyer, 1, some (.int), 5)
def mX7_sell : mm_M := (RX7, yX7_sell, cX7_sell, 5, some (.int), 5)
def mX7_trade : mm_M := (RX7, yX7_trade, cX7_trade, 6, some (.int), 5)
def mX7_redeem : mm_M := (RX7, yX7_redeem, cX7_redeem, 4, some (.int), 5)
def mX7_set : mm_M := (RX7, yX7_set, cX7_set, 3, some (.int), 5)
def mX7_lotOf : mm_M := (RX7, yX7_lotOf, cX7_lotOf, 3, some (.int), 4)
def mX7_barrel : mm_M := (RX7, yX7_barrel, cX7_barrel, 3, some (.int), 2)
def mX7_holding : mm_M := (RX7, yX7_holding, cX7_holding, 4, some (.int), 3)
def mX7_account : mm_M := (RX7, yX7_account, cX7_account, 2, some (.int), 2)
def mX7_entry : mm_M := (RX7, yX7_entry, cX7_entry, 3, some (.int), 2)
def mX7_cases : mm_M := (RX7, yX7_cases, cX7_cases, 3, some (.int), 3)
def mX7_sellable : mm_M := (RX7, yX7_sellable, cX7_sellable, 2, some (.int), 4)
def mX7_deadline : mm_M := (RX7, yX7_deadline, cX7_deadline, 2, some (.int), 3)
def mX7_topping : mm_M := (RX7, yX7_topping, cX7_topping, 2, some (.int), 3)
def mX7_loser : mm_M := (RX7, yX7_loser, cX7_loser, 3, some (.int), 4)
def mX7_count : mm_M := (RX7, yX7_count, cX7_count, 2, some (.int), 6)
def mX7_undo : mm_M := (RX7, yX7_undo, cX7_undo, 1, some (.int), 5)
def mX7_type : mm_M := (RX7, yX7_type, cX7_type, 2, some (.int), 2)
def mX7_clearText : mm_M := (RX7, yX7_clearText, cX7_clearText, 1, some (.int), 1)
def mX7_fault : mm_M := (RX7, yX7_fault, cX7_fault, 2, some (.int), 6)
def mX7_play : mm_M := (RX7, yX7_play, cX7_play, 1, some (.int), 6)
def mX7_settled : mm_M := (RX7, yX7_settled, cX7_settled, 2, some (.int), 2)
def mX7_within : mm_M := (RX7, yX7_within, cX7_within, 3, some (.boolean), 0)
def mX7_share : mm_M := (RX7, yX7_share, cX7_share, 3, some (.int), 0)
def mX7_sum : mm_M := (RX7, yX7_sum, cX7_sum, 3, some (.int), 0)
def mX7_copyRow : mm_M := (RX7, yX7_copyRow, cX7_copyRow, 3, none, 0)
def mX7_floatBits : mm_M := (RX7, yX7_floatBits, cX7_floatBits, 4, some (.int), 0)
def mX8_init : mm_M := (RX8, yX8_init, cX8_init, 1, none, 1)
def mX8_in : mm_M := (RX8, yX8_in, cX8_in, 3, some (.boolean), 0)
def mX8_copies : mm_M := (RX8, yX8_copies, cX8_copies, 3, none, 0)
def mX8_changes : mm_M := (RX8, yX8_changes, cX8_changes, 2, none, 0)
def mX8_isLot : mm_M := (RX8, yX8_isLot, cX8_isLot, 2, some (.boolean), 0)
def mX8_isBuyer : mm_M := (RX8, yX8_isBuyer, cX8_isBuyer, 2, some (.boolean), 0)
def mX8_of : mm_M := (RX8, yX8_of, cX8_of, 3, some (.int), 0)
def mX8_isOpen : mm_M := (RX8, yX8_isOpen, cX8_isOpen, 2, some (.boolean), 1)
def mX8_hold : mm_M := (RX8, yX8_hold, cX8_hold, 3, some (.int), 0)
def mX8_holds : mm_M := (RX8, yX8_holds, cX8_holds, 3, some (.int), 1)
def mX8_allHeld : mm_M := (RX8, yX8_allHeld, cX8_allHeld, 4, some (.int), 2)
def mX8_loads : mm_M := (RX8, yX8_loads, cX8_loads, 3, none, 1)
def mX8_lays : mm_M := (RX8, yX8_lays, cX8_lays, 3, none, 0)
def mX8_all : mm_M := (RX8, yX8_all, cX8_all, 3, some (.int), 0)
def mX8_leaves : mm_M := (RX8, yX8_leaves, cX8_leaves, 3, none, 0)
def mX8_month : mm_M := (RX8, yX8_month, cX8_month, 5, some (.int), 1)
def mX8_casesIn : mm_M := (RX8, yX8_casesIn, cX8_casesIn, 5, some (.int), 2)
def mX8_expected : mm_M := (RX8, yX8_expected, cX8_expected, 2, some (.int), 3)
def mX8_needy : mm_M := (RX8, yX8_needy, cX8_needy, 2, some (.int), 0)
def mX8_tops : mm_M := (RX8, yX8_tops, cX8_tops, 4, none, 1)
def mX8_lot : mm_M := (RX8, yX8_lot, cX8_lot, 5, some (.int), 1)
def mX8_quote : mm_M := (RX8, yX8_quote, cX8_quote, 3, some (.int), 1)
def mX8_tasted : mm_M := (RX8, yX8_tasted, cX8_tasted, 2, some (.int), 0)
def mX8_taste : mm_M := (RX8, yX8_taste, cX8_taste, 3, some (.int), 2)
def mX8_top : mm_M := (RX8, yX8_top, cX8_top, 2, some (.int), 2)
def mX8_passes : mm_M := (RX8, yX8_passes, cX8_passes, 3, some (.int), 2)
def mX8_pass : mm_M := (RX8, yX8_pass, cX8_pass, 4, some (.int), 3)
def mX8_enters : mm_M := (RX8, yX8_enters, cX8_enters, 8, none, 0)
def mX8_goes : mm_M := (RX8, yX8_goes, cX8_goes, 5, some (.int), 2)
def mX8_wouldCut : mm_M := (RX8, yX8_wouldCut, cX8_wouldCut, 5, some (.int), 2)
def mX8_bottle : mm_M := (RX8, yX8_bottle, cX8_bottle, 8, some (.int), 3)
def mX8_buyer : mm_M := (RX8, yX8_buyer, cX8_buyer, 1, some (.int), 1)
def mX8_areCases : mm_M := (RX8, yX8_areCases, cX8_areCases, 2, some (.boolean), 1)
def mX8_comes : mm_M := (RX8, yX8_comes, cX8_comes, 6, none, 1)
def mX8_sell : mm_M := (RX8, yX8_sell, cX8_sell, 5, some (.int), 4)
def mX8_trade : mm_M := (RX8, yX8_trade, cX8_trade, 7, some (.int), 3)
def mX8_redeem : mm_M := (RX8, yX8_redeem, cX8_redeem, 5, some (.int), 3)
def mX8_set : mm_M := (RX8, yX8_set, cX8_set, 4, some (.int), 1)
def mX8_lotOf : mm_M := (RX8, yX8_lotOf, cX8_lotOf, 3, some (.int), 4)
def mX8_barrel : mm_M := (RX8, yX8_barrel, cX8_barrel, 3, some (.int), 1)
def mX8_mean : mm_M := (RX8, yX8_mean, cX8_mean, 5, some (.int), 2)
def mX8_holding : mm_M := (RX8, yX8_holding, cX8_holding, 4, some (.int), 3)
def mX8_account : mm_M := (RX8, yX8_account, cX8_account, 2, some (.int), 1)
def mX8_entry : mm_M := (RX8, yX8_entry, cX8_entry, 3, some (.int), 1)
def mX8_cases : mm_M := (RX8, yX8_cases, cX8_cases, 3, some (.int), 3)
def mX8_sellable : mm_M := (RX8, yX8_sellable, cX8_sellable, 3, some (.int), 4)
def mX8_deadline : mm_M := (RX8, yX8_deadline, cX8_deadline, 4, some (.int), 3)
def mX8_topping : mm_M := (RX8, yX8_topping, cX8_topping, 3, some (.int), 3)
def mX8_loser : mm_M := (RX8, yX8_loser, cX8_loser, 7, some (.int), 3)
def mX8_accounts : mm_M := (RX8, yX8_accounts, cX8_accounts, 3, some (.int), 0)
def mX8_ofLots : mm_M := (RX8, yX8_ofLots, cX8_ofLots, 4, some (.int), 3)
def mX8_count : mm_M := (RX8, yX8_count, cX8_count, 2, some (.int), 4)
def mX8_undo : mm_M := (RX8, yX8_undo, cX8_undo, 2, some (.int), 0)
def mX8_type : mm_M := (RX8, yX8_type, cX8_type, 2, some (.int), 1)
def mX8_clearText : mm_M := (RX8, yX8_clearText, cX8_clearText, 2, some (.int), 0)
def mX8_isAt : mm_M := (RX8, yX8_isAt, cX8_isAt, 3, some (.boolean), 1)
def mX8_sign : mm_M := (RX8, yX8_sign, cX8_sign, 3, some (.boolean), 2)
def mX8_number : mm_M := (RX8, yX8_number, cX8_number, 3, some (.boolean), 2)
def mX8_numbersOf : mm_M := (RX8, yX8_numbersOf, cX8_numbersOf, 1, some (.int), 0)
def mX8_reads : mm_M := (RX8, yX8_reads, cX8_reads, 4, some (.boolean), 3)
def mX8_calls : mm_M := (RX8, yX8_calls, cX8_calls, 1, some (.int), 5)
def mX8_plays : mm_M := (RX8, yX8_plays, cX8_plays, 4, some (.boolean), 6)
def mX8_fault : mm_M := (RX8, yX8_fault, cX8_fault, 3, some (.int), 7)
def mX8_play : mm_M := (RX8, yX8_play, cX8_play, 2, some (.int), 7)
def mJxf58ca_isNaN_12338 : mm_M := (RJxf58ca, yJxf58ca_isNaN_12338, cJxf58ca_isNaN_12338, 1, some (.boolean), 0)
def mJxf58ca_floatToIntBits_5c35a : mm_M := (RJxf58ca, yJxf58ca_floatToIntBits_5c35a, cJxf58ca_floatToIntBits_5c35a, 1, some (.int), 1)
def mJ9_max_7cf53 : mm_M := (RJ9, yJ9_max_7cf53, cJ9_max_7cf53, 2, some (.int), 0)
def mJ9_min_7cf53 : mm_M := (RJ9, yJ9_min_7cf53, cJ9_min_7cf53, 2, some (.int), 0)
def mL_law : mm_M := (RL, yL_law, cL_law, 4, some .boolean, 8)
theorem dX0_init_0 : decode mX0_init.2.2.1 0 = .ok (.aload_n 0, 1) := by decide +kernel
theorem dX0_init_1 : decode mX0_init.2.2.1 1 = .ok (.invokespecial 3, 3) := by decide +kernel
theorem dX0_init_4 : decode mX0_init.2.2.1 4 = .ok (.aload_n 0, 1) := by decide +kernel
theorem dX0_init_5 : decode mX0_init.2.2.1 5 = .ok (.bipush 12, 2) := by decide +kernel
theorem dX0_init_7 : decode mX0_init.2.2.1 7 = .ok (.newarray .int, 2) := by decide +kernel
theorem dX0_init_9 : decode mX0_init.2.2.1 9 = .ok (.putfield 9, 3) := by decide +kernel
theorem dX0_init_12 : decode mX0_init.2.2.1 12 = .ok (.return_, 1) := by decide +kernel
theorem dX0_fill_0 : decode mX0_fill.2.2.1 0 = .ok (.aload_n 0, 1) := by decide +kernel
theorem dX0_fill_1 : decode mX0_fill.2.2.1 1 = .ok (.iload_n 1, 1) := by decide +kernel
theorem dX0_fill_2 : decode mX0_fill.2.2.1 2 = .ok (.putfield 15, 3) := by decide +kernel
theorem dX0_fill_5 : decode mX0_fill.2.2.1 5 = .ok (.aload_n 0, 1) := by decide +kernel
theorem dX0_fill_6 : decode mX0_fill.2.2.1 6 = .ok (.iload_n 2, 1) := by decide +kernel
theorem dX0_fill_7 : decode mX0_fill.2.2.1 7 = .ok (.putfield 19, 3) := by decide +kernel
theorem dX0_fill_10 : decode mX0_fill.2.2.1 10 = .ok (.iconst 0, 1) := by decide +kernel
theorem dX0_fill_11 : decode mX0_fill.2.2.1 11 = .ok (.istore_n 3, 1) := by decide +kernel
theorem dX0_fill_12 : decode mX0_fill.2.2.1 12 = .ok (.iload_n 3, 1) := by decide +kernel
theorem dX0_fill_13 : decode mX0_fill.2.2.1 13 = .ok (.aload_n 0, 1) := by decide +kernel
theorem dX0_fill_14 : decode mX0_fill.2.2.1 14 = .ok (.getfield 9, 3) := by decide +kernel
theorem dX0_fill_17 : decode mX0_fill.2.2.1 17 = .ok (.arraylength, 1) := by decide +kernel
theorem dX0_fill_18 : decode mX0_fill.2.2.1 18 = .ok (.if_icmp .ge 27, 3) := by decide +kernel
theorem dX0_fill_21 : decode mX0_fill.2.2.1 21 = .ok (.aload_n 0, 1) := by decide +kernel
theorem dX0_fill_22 : decode mX0_fill.2.2.1 22 = .ok (.getfield 9, 3) := by decide +kernel
theorem dX0_fill_25 : decode mX0_fill.2.2.1 25 = .ok (.iload_n 3, 1) := by decide +kernel
theorem dX0_fill_26 : decode mX0_fill.2.2.1 26 = .ok (.iload_n 3, 1) := by decide +kernel
theorem dX0_fill_27 : decode mX0_fill.2.2.1 27 = .ok (.iload_n 1, 1) := by decide +kernel
theorem dX0_fill_28 : decode mX0_fill.2.2.1 28 = .ok (.if_icmp .ge 9, 3) := by decide +kernel
theorem dX0_fill_31 : decode mX0_fill.2.2.1 31 = .ok (.sipush 2250, 3) := by decide +kernel
theorem dX0_fill_34 : decode mX0_fill.2.2.1 34 = .ok (.goto 4, 3) := by decide +kernel
theorem dX0_fill_37 : decode mX0_fill.2.2.1 37 = .ok (.iconst 0, 1) := by decide +kernel
theorem dX0_fill_38 : decode mX0_fill.2.2.1 38 = .ok (.iastore, 1) := by decide +kernel
theorem dX0_fill_39 : decode mX0_fill.2.2.1 39 = .ok (.iinc 3 1, 3) := by decide +kernel
theorem dX0_fill_42 : decode mX0_fill.2.2.1 42 = .ok (.goto (-30), 3) := by decide +kernel
theorem dX0_fill_45 : decode mX0_fill.2.2.1 45 = .ok (.return_, 1) := by decide +kernel
theorem dX0_copyBarrels_0 : decode mX0_copyBarrels.2.2.1 0 = .ok (.aload_n 1, 1) := by decide +kernel
theorem dX0_copyBarrels_1 : decode mX0_copyBarrels.2.2.1 1 = .ok (.getfield 9, 3) := by decide +kernel
theorem dX0_copyBarrels_4 : decode mX0_copyBarrels.2.2.1 4 = .ok (.aload_n 0, 1) := by decide +kernel
theorem dX0_copyBarrels_5 : decode mX0_copyBarrels.2.2.1 5 = .ok (.getfield 9, 3) := by decide +kernel
theorem dX0_copyBarrels_8 : decode mX0_copyBarrels.2.2.1 8 = .ok (.invokestatic 22, 3) := by decide +kernel
theorem dX0_copyBarrels_11 : decode mX0_copyBarrels.2.2.1 11 = .ok (.aload_n 0, 1) := by decide +kernel
theorem dX0_copyBarrels_12 : decode mX0_copyBarrels.2.2.1 12 = .ok (.aload_n 1, 1) := by decide +kernel
theorem dX0_copyBarrels_13 : decode mX0_copyBarrels.2.2.1 13 = .ok (.getfield 15, 3) := by decide +kernel
theorem dX0_copyBarrels_16 : decode mX0_copyBarrels.2.2.1 16 = .ok (.putfield 15, 3) := by decide +kernel
theorem dX0_copyBarrels_19 : decode mX0_copyBarrels.2.2.1 19 = .ok (.aload_n 0, 1) := by decide +kernel
theorem dX0_copyBarrels_20 : decode mX0_copyBarrels.2.2.1 20 = .ok (.aload_n 1, 1) := by decide +kernel
theorem dX0_copyBarrels_21 : decode mX0_copyBarrels.2.2.1 21 = .ok (.getfield 19, 3) := by decide +kernel
theorem dX0_copyBarrels_24 : decode mX0_copyBarrels.2.2.1 24 = .ok (.putfield 19, 3) := by decide +kernel
theorem dX0_copyBarrels_27 : decode mX0_copyBarrels.2.2.1 27 = .ok (.return_, 1) := by decide +kernel
theorem dX0_casesBehind_0 : decode mX0_casesBehind.2.2.1 0 = .ok (.iconst 0, 1) := by decide +kernel
theorem dX0_casesBehind_1 : decode mX0_casesBehind.2.2.1 1 = .ok (.istore_n 2, 1) := by decide +kernel
theorem dX0_casesBehind_2 : decode mX0_casesBehind.2.2.1 2 = .ok (.iconst 0, 1) := by decide +kernel
theorem dX0_casesBehind_3 : decode mX0_casesBehind.2.2.1 3 = .ok (.istore_n 3, 1) := by decide +kernel
theorem dX0_casesBehind_4 : decode mX0_casesBehind.2.2.1 4 = .ok (.iload_n 3, 1) := by decide +kernel
theorem dX0_casesBehind_5 : decode mX0_casesBehind.2.2.1 5 = .ok (.aload_n 0, 1) := by decide +kernel
theorem dX0_casesBehind_6 : decode mX0_casesBehind.2.2.1 6 = .ok (.getfield 15, 3) := by decide +kernel
theorem dX0_casesBehind_9 : decode mX0_casesBehind.2.2.1 9 = .ok (.if_icmp .ge 32, 3) := by decide +kernel
theorem dX0_casesBehind_12 : decode mX0_casesBehind.2.2.1 12 = .ok (.iload_n 3, 1) := by decide +kernel
theorem dX0_casesBehind_13 : decode mX0_casesBehind.2.2.1 13 = .ok (.aload_n 0, 1) := by decide +kernel
theorem dX0_casesBehind_14 : decode mX0_casesBehind.2.2.1 14 = .ok (.getfield 9, 3) := by decide +kernel
theorem dX0_casesBehind_17 : decode mX0_casesBehind.2.2.1 17 = .ok (.arraylength, 1) := by decide +kernel
theorem dX0_casesBehind_18 : decode mX0_casesBehind.2.2.1 18 = .ok (.if_icmp .ge 23, 3) := by decide +kernel
theorem dX0_casesBehind_21 : decode mX0_casesBehind.2.2.1 21 = .ok (.iload_n 2, 1) := by decide +kernel
theorem dX0_casesBehind_22 : decode mX0_casesBehind.2.2.1 22 = .ok (.aload_n 0, 1) := by decide +kernel
theorem dX0_casesBehind_23 : decode mX0_casesBehind.2.2.1 23 = .ok (.aload_n 0, 1) := by decide +kernel
theorem dX0_casesBehind_24 : decode mX0_casesBehind.2.2.1 24 = .ok (.getfield 9, 3) := by decide +kernel
theorem dX0_casesBehind_27 : decode mX0_casesBehind.2.2.1 27 = .ok (.iload_n 3, 1) := by decide +kernel
theorem dX0_casesBehind_28 : decode mX0_casesBehind.2.2.1 28 = .ok (.iaload, 1) := by decide +kernel
theorem dX0_casesBehind_29 : decode mX0_casesBehind.2.2.1 29 = .ok (.iload_n 1, 1) := by decide +kernel
theorem dX0_casesBehind_30 : decode mX0_casesBehind.2.2.1 30 = .ok (.invokevirtual 26, 3) := by decide +kernel
theorem dX0_casesBehind_33 : decode mX0_casesBehind.2.2.1 33 = .ok (.iadd, 1) := by decide +kernel
theorem dX0_casesBehind_34 : decode mX0_casesBehind.2.2.1 34 = .ok (.istore_n 2, 1) := by decide +kernel
theorem dX0_casesBehind_35 : decode mX0_casesBehind.2.2.1 35 = .ok (.iinc 3 1, 3) := by decide +kernel
theorem dX0_casesBehind_38 : decode mX0_casesBehind.2.2.1 38 = .ok (.goto (-34), 3) := by decide +kernel
theorem dX0_casesBehind_41 : decode mX0_casesBehind.2.2.1 41 = .ok (.iload_n 2, 1) := by decide +kernel
theorem dX0_casesBehind_42 : decode mX0_casesBehind.2.2.1 42 = .ok (.bipush 90, 2) := by decide +kernel
theorem dX0_casesBehind_44 : decode mX0_casesBehind.2.2.1 44 = .ok (.idiv, 1) := by decide +kernel
theorem dX0_casesBehind_45 : decode mX0_casesBehind.2.2.1 45 = .ok (.ireturn, 1) := by decide +kernel
theorem dX0_lose_0 : decode mX0_lose.2.2.1 0 = .ok (.iconst 0, 1) := by decide +kernel
theorem dX0_lose_1 : decode mX0_lose.2.2.1 1 = .ok (.istore_n 2, 1) := by decide +kernel
theorem dX0_lose_2 : decode mX0_lose.2.2.1 2 = .ok (.iconst 0, 1) := by decide +kernel
theorem dX0_lose_3 : decode mX0_lose.2.2.1 3 = .ok (.istore_n 3, 1) := by decide +kernel
theorem dX0_lose_4 : decode mX0_lose.2.2.1 4 = .ok (.iload_n 3, 1) := by decide +kernel
theorem dX0_lose_5 : decode mX0_lose.2.2.1 5 = .ok (.aload_n 0, 1) := by decide +kernel
theorem dX0_lose_6 : decode mX0_lose.2.2.1 6 = .ok (.getfield 15, 3) := by decide +kernel
theorem dX0_lose_9 : decode mX0_lose.2.2.1 9 = .ok (.if_icmp .ge 51, 3) := by decide +kernel
theorem dX0_lose_12 : decode mX0_lose.2.2.1 12 = .ok (.iload_n 3, 1) := by decide +kernel
theorem dX0_lose_13 : decode mX0_lose.2.2.1 13 = .ok (.aload_n 0, 1) := by decide +kernel
theorem dX0_lose_14 : decode mX0_lose.2.2.1 14 = .ok (.getfield 9, 3) := by decide +kernel
theorem dX0_lose_17 : decode mX0_lose.2.2.1 17 = .ok (.arraylength, 1) := by decide +kernel
theorem dX0_lose_18 : decode mX0_lose.2.2.1 18 = .ok (.if_icmp .ge 42, 3) := by decide +kernel
theorem dX0_lose_21 : decode mX0_lose.2.2.1 21 = .ok (.aload_n 0, 1) := by decide +kernel
theorem dX0_lose_22 : decode mX0_lose.2.2.1 22 = .ok (.aload_n 0, 1) := by decide +kernel
theorem dX0_lose_23 : decode mX0_lose.2.2.1 23 = .ok (.getfield 9, 3) := by decide +kernel
theorem dX0_lose_26 : decode mX0_lose.2.2.1 26 = .ok (.iload_n 3, 1) := by decide +kernel
theorem dX0_lose_27 : decode mX0_lose.2.2.1 27 = .ok (.iaload, 1) := by decide +kernel
theorem dX0_lose_28 : decode mX0_lose.2.2.1 28 = .ok (.iload_n 1, 1) := by decide +kernel
theorem dX0_lose_29 : decode mX0_lose.2.2.1 29 = .ok (.invokevirtual 26, 3) := by decide +kernel
theorem dX0_lose_32 : decode mX0_lose.2.2.1 32 = .ok (.istore 4, 2) := by decide +kernel
theorem dX0_lose_34 : decode mX0_lose.2.2.1 34 = .ok (.iload_n 2, 1) := by decide +kernel
theorem dX0_lose_35 : decode mX0_lose.2.2.1 35 = .ok (.aload_n 0, 1) := by decide +kernel
theorem dX0_lose_36 : decode mX0_lose.2.2.1 36 = .ok (.getfield 9, 3) := by decide +kernel
theorem dX0_lose_39 : decode mX0_lose.2.2.1 39 = .ok (.iload_n 3, 1) := by decide +kernel
theorem dX0_lose_40 : decode mX0_lose.2.2.1 40 = .ok (.iaload, 1) := by decide +kernel
theorem dX0_lose_41 : decode mX0_lose.2.2.1 41 = .ok (.iload 4, 2) := by decide +kernel
theorem dX0_lose_43 : decode mX0_lose.2.2.1 43 = .ok (.isub, 1) := by decide +kernel
theorem dX0_lose_44 : decode mX0_lose.2.2.1 44 = .ok (.iadd, 1) := by decide +kernel
theorem dX0_lose_45 : decode mX0_lose.2.2.1 45 = .ok (.istore_n 2, 1) := by decide +kernel
theorem dX0_lose_46 : decode mX0_lose.2.2.1 46 = .ok (.aload_n 0, 1) := by decide +kernel
theorem dX0_lose_47 : decode mX0_lose.2.2.1 47 = .ok (.getfield 9, 3) := by decide +kernel
theorem dX0_lose_50 : decode mX0_lose.2.2.1 50 = .ok (.iload_n 3, 1) := by decide +kernel
theorem dX0_lose_51 : decode mX0_lose.2.2.1 51 = .ok (.iload 4, 2) := by decide +kernel
theorem dX0_lose_53 : decode mX0_lose.2.2.1 53 = .ok (.iastore, 1) := by decide +kernel
theorem dX0_lose_54 : decode mX0_lose.2.2.1 54 = .ok (.iinc 3 1, 3) := by decide +kernel
theorem dX0_lose_57 : decode mX0_lose.2.2.1 57 = .ok (.goto (-53), 3) := by decide +kernel
theorem dX0_lose_60 : decode mX0_lose.2.2.1 60 = .ok (.iload_n 2, 1) := by decide +kernel
theorem dX0_lose_61 : decode mX0_lose.2.2.1 61 = .ok (.ireturn, 1) := by decide +kernel
theorem dX0_wineBehind_0 : decode mX0_wineBehind.2.2.1 0 = .ok (.iload_n 1, 1) := by decide +kernel
theorem dX0_wineBehind_1 : decode mX0_wineBehind.2.2.1 1 = .ok (.istore_n 3, 1) := by decide +kernel
theorem dX0_wineBehind_2 : decode mX0_wineBehind.2.2.1 2 = .ok (.iconst 0, 1) := by decide +kernel
theorem dX0_wineBehind_3 : decode mX0_wineBehind.2.2.1 3 = .ok (.istore 4, 2) := by decide +kernel
theorem dX0_wineBehind_5 : decode mX0_wineBehind.2.2.1 5 = .ok (.iload 4, 2) := by decide +kernel
theorem dX0_wineBehind_7 : decode mX0_wineBehind.2.2.1 7 = .ok (.iload_n 2, 1) := by decide +kernel
theorem dX0_wineBehind_8 : decode mX0_wineBehind.2.2.1 8 = .ok (.if_icmp .ge 48, 3) := by decide +kernel
theorem dX0_wineBehind_11 : decode mX0_wineBehind.2.2.1 11 = .ok (.iload_n 3, 1) := by decide +kernel
theorem dX0_wineBehind_12 : decode mX0_wineBehind.2.2.1 12 = .ok (.aload_n 0, 1) := by decide +kernel
theorem dX0_wineBehind_13 : decode mX0_wineBehind.2.2.1 13 = .ok (.getfield 19, 3) := by decide +kernel
theorem dX0_wineBehind_16 : decode mX0_wineBehind.2.2.1 16 = .ok (.imul, 1) := by decide +kernel
theorem dX0_wineBehind_17 : decode mX0_wineBehind.2.2.1 17 = .ok (.sipush 1000, 3) := by decide +kernel
theorem dX0_wineBehind_20 : decode mX0_wineBehind.2.2.1 20 = .ok (.idiv, 1) := by decide +kernel
theorem dX0_wineBehind_21 : decode mX0_wineBehind.2.2.1 21 = .ok (.istore 5, 2) := by decide +kernel
theorem dX0_wineBehind_23 : decode mX0_wineBehind.2.2.1 23 = .ok (.iload 5, 2) := by decide +kernel
theorem dX0_wineBehind_25 : decode mX0_wineBehind.2.2.1 25 = .ok (.ifCond .ne 6, 3) := by decide +kernel
theorem dX0_wineBehind_28 : decode mX0_wineBehind.2.2.1 28 = .ok (.goto 28, 3) := by decide +kernel
theorem dX0_wineBehind_31 : decode mX0_wineBehind.2.2.1 31 = .ok (.iload_n 3, 1) := by decide +kernel
theorem dX0_wineBehind_32 : decode mX0_wineBehind.2.2.1 32 = .ok (.iload_n 3, 1) := by decide +kernel
theorem dX0_wineBehind_33 : decode mX0_wineBehind.2.2.1 33 = .ok (.sipush 1800, 3) := by decide +kernel
theorem dX0_wineBehind_36 : decode mX0_wineBehind.2.2.1 36 = .ok (.if_icmp .ge 10, 3) := by decide +kernel
theorem dX0_wineBehind_39 : decode mX0_wineBehind.2.2.1 39 = .ok (.iconst 2, 1) := by decide +kernel
theorem dX0_wineBehind_40 : decode mX0_wineBehind.2.2.1 40 = .ok (.iload 5, 2) := by decide +kernel
theorem dX0_wineBehind_42 : decode mX0_wineBehind.2.2.1 42 = .ok (.imul, 1) := by decide +kernel
theorem dX0_wineBehind_43 : decode mX0_wineBehind.2.2.1 43 = .ok (.goto 5, 3) := by decide +kernel
theorem dX0_wineBehind_46 : decode mX0_wineBehind.2.2.1 46 = .ok (.iload 5, 2) := by decide +kernel
theorem dX0_wineBehind_48 : decode mX0_wineBehind.2.2.1 48 = .ok (.isub, 1) := by decide +kernel
theorem dX0_wineBehind_49 : decode mX0_wineBehind.2.2.1 49 = .ok (.istore_n 3, 1) := by decide +kernel
theorem dX0_wineBehind_50 : decode mX0_wineBehind.2.2.1 50 = .ok (.iinc 4 1, 3) := by decide +kernel
theorem dX0_wineBehind_53 : decode mX0_wineBehind.2.2.1 53 = .ok (.goto (-48), 3) := by decide +kernel
theorem dX0_wineBehind_56 : decode mX0_wineBehind.2.2.1 56 = .ok (.iload_n 3, 1) := by decide +kernel
theorem dX0_wineBehind_57 : decode mX0_wineBehind.2.2.1 57 = .ok (.ireturn, 1) := by decide +kernel
theorem dX0_barrelForTasting_0 : decode mX0_barrelForTasting.2.2.1 0 = .ok (.iconst 0, 1) := by decide +kernel
theorem dX0_barrelForTasting_1 : decode mX0_barrelForTasting.2.2.1 1 = .ok (.istore_n 1, 1) := by decide +kernel
theorem dX0_barrelForTasting_2 : decode mX0_barrelForTasting.2.2.1 2 = .ok (.iload_n 1, 1) := by decide +kernel
theorem dX0_barrelForTasting_3 : decode mX0_barrelForTasting.2.2.1 3 = .ok (.aload_n 0, 1) := by decide +kernel
theorem dX0_barrelForTasting_4 : decode mX0_barrelForTasting.2.2.1 4 = .ok (.getfield 15, 3) := by decide +kernel
theorem dX0_barrelForTasting_7 : decode mX0_barrelForTasting.2.2.1 7 = .ok (.if_icmp .ge 31, 3) := by decide +kernel
theorem dX0_barrelForTasting_10 : decode mX0_barrelForTasting.2.2.1 10 = .ok (.iload_n 1, 1) := by decide +kernel
theorem dX0_barrelForTasting_11 : decode mX0_barrelForTasting.2.2.1 11 = .ok (.aload_n 0, 1) := by decide +kernel
theorem dX0_barrelForTasting_12 : decode mX0_barrelForTasting.2.2.1 12 = .ok (.getfield 9, 3) := by decide +kernel
theorem dX0_barrelForTasting_15 : decode mX0_barrelForTasting.2.2.1 15 = .ok (.arraylength, 1) := by decide +kernel
theorem dX0_barrelForTasting_16 : decode mX0_barrelForTasting.2.2.1 16 = .ok (.if_icmp .ge 22, 3) := by decide +kernel
theorem dX0_barrelForTasting_19 : decode mX0_barrelForTasting.2.2.1 19 = .ok (.aload_n 0, 1) := by decide +kernel
theorem dX0_barrelForTasting_20 : decode mX0_barrelForTasting.2.2.1 20 = .ok (.getfield 9, 3) := by decide +kernel
theorem dX0_barrelForTasting_23 : decode mX0_barrelForTasting.2.2.1 23 = .ok (.iload_n 1, 1) := by decide +kernel
theorem dX0_barrelForTasting_24 : decode mX0_barrelForTasting.2.2.1 24 = .ok (.iaload, 1) := by decide +kernel
theorem dX0_barrelForTasting_25 : decode mX0_barrelForTasting.2.2.1 25 = .ok (.bipush 10, 2) := by decide +kernel
theorem dX0_barrelForTasting_27 : decode mX0_barrelForTasting.2.2.1 27 = .ok (.if_icmp .lt 5, 3) := by decide +kernel
theorem dX0_barrelForTasting_30 : decode mX0_barrelForTasting.2.2.1 30 = .ok (.iload_n 1, 1) := by decide +kernel
theorem dX0_barrelForTasting_31 : decode mX0_barrelForTasting.2.2.1 31 = .ok (.ireturn, 1) := by decide +kernel
theorem dX0_barrelForTasting_32 : decode mX0_barrelForTasting.2.2.1 32 = .ok (.iinc 1 1, 3) := by decide +kernel
theorem dX0_barrelForTasting_35 : decode mX0_barrelForTasting.2.2.1 35 = .ok (.goto (-33), 3) := by decide +kernel
theorem dX0_barrelForTasting_38 : decode mX0_barrelForTasting.2.2.1 38 = .ok (.iconst (-1), 1) := by decide +kernel
theorem dX0_barrelForTasting_39 : decode mX0_barrelForTasting.2.2.1 39 = .ok (.ireturn, 1) := by decide +kernel
theorem dX0_takeSip_0 : decode mX0_takeSip.2.2.1 0 = .ok (.iload_n 1, 1) := by decide +kernel
theorem dX0_takeSip_1 : decode mX0_takeSip.2.2.1 1 = .ok (.ifCond .lt 20, 3) := by decide +kernel
theorem dX0_takeSip_4 : decode mX0_takeSip.2.2.1 4 = .ok (.iload_n 1, 1) := by decide +kernel
theorem dX0_takeSip_5 : decode mX0_takeSip.2.2.1 5 = .ok (.aload_n 0, 1) := by decide +kernel
theorem dX0_takeSip_6 : decode mX0_takeSip.2.2.1 6 = .ok (.getfield 15, 3) := by decide +kernel
theorem dX0_takeSip_9 : decode mX0_takeSip.2.2.1 9 = .ok (.if_icmp .ge 12, 3) := by decide +kernel
theorem dX0_takeSip_12 : decode mX0_takeSip.2.2.1 12 = .ok (.iload_n 1, 1) := by decide +kernel
theorem dX0_takeSip_13 : decode mX0_takeSip.2.2.1 13 = .ok (.aload_n 0, 1) := by decide +kernel
theorem dX0_takeSip_14 : decode mX0_takeSip.2.2.1 14 = .ok (.getfield 9, 3) := by decide +kernel
theorem dX0_takeSip_17 : decode mX0_takeSip.2.2.1 17 = .ok (.arraylength, 1) := by decide +kernel
theorem dX0_takeSip_18 : decode mX0_takeSip.2.2.1 18 = .ok (.if_icmp .lt 4, 3) := by decide +kernel
theorem dX0_takeSip_21 : decode mX0_takeSip.2.2.1 21 = .ok (.return_, 1) := by decide +kernel
theorem dX0_takeSip_22 : decode mX0_takeSip.2.2.1 22 = .ok (.aload_n 0, 1) := by decide +kernel
theorem dX0_takeSip_23 : decode mX0_takeSip.2.2.1 23 = .ok (.getfield 9, 3) := by decide +kernel
theorem dX0_takeSip_26 : decode mX0_takeSip.2.2.1 26 = .ok (.iload_n 1, 1) := by decide +kernel
theorem dX0_takeSip_27 : decode mX0_takeSip.2.2.1 27 = .ok (.dup2, 1) := by decide +kernel
theorem dX0_takeSip_28 : decode mX0_takeSip.2.2.1 28 = .ok (.iaload, 1) := by decide +kernel
theorem dX0_takeSip_29 : decode mX0_takeSip.2.2.1 29 = .ok (.bipush 10, 2) := by decide +kernel
theorem dX0_takeSip_31 : decode mX0_takeSip.2.2.1 31 = .ok (.isub, 1) := by decide +kernel
theorem dX0_takeSip_32 : decode mX0_takeSip.2.2.1 32 = .ok (.iastore, 1) := by decide +kernel
theorem dX0_takeSip_33 : decode mX0_takeSip.2.2.1 33 = .ok (.aload_n 0, 1) := by decide +kernel
theorem dX0_takeSip_34 : decode mX0_takeSip.2.2.1 34 = .ok (.getfield 9, 3) := by decide +kernel
theorem dX0_takeSip_37 : decode mX0_takeSip.2.2.1 37 = .ok (.iload_n 1, 1) := by decide +kernel
theorem dX0_takeSip_38 : decode mX0_takeSip.2.2.1 38 = .ok (.iaload, 1) := by decide +kernel
theorem dX0_takeSip_39 : decode mX0_takeSip.2.2.1 39 = .ok (.ifCond .ne 8, 3) := by decide +kernel
theorem dX0_takeSip_42 : decode mX0_takeSip.2.2.1 42 = .ok (.aload_n 0, 1) := by decide +kernel
theorem dX0_takeSip_43 : decode mX0_takeSip.2.2.1 43 = .ok (.iload_n 1, 1) := by decide +kernel
theorem dX0_takeSip_44 : decode mX0_takeSip.2.2.1 44 = .ok (.invokevirtual 30, 3) := by decide +kernel
theorem dX0_takeSip_47 : decode mX0_takeSip.2.2.1 47 = .ok (.return_, 1) := by decide +kernel
theorem dX0_leaveOut_0 : decode mX0_leaveOut.2.2.1 0 = .ok (.iload_n 1, 1) := by decide +kernel
theorem dX0_leaveOut_1 : decode mX0_leaveOut.2.2.1 1 = .ok (.istore_n 2, 1) := by decide +kernel
theorem dX0_leaveOut_2 : decode mX0_leaveOut.2.2.1 2 = .ok (.iload_n 2, 1) := by decide +kernel
theorem dX0_leaveOut_3 : decode mX0_leaveOut.2.2.1 3 = .ok (.ifCond .lt 34, 3) := by decide +kernel
theorem dX0_leaveOut_6 : decode mX0_leaveOut.2.2.1 6 = .ok (.iload_n 2, 1) := by decide +kernel
theorem dX0_leaveOut_7 : decode mX0_leaveOut.2.2.1 7 = .ok (.iconst 1, 1) := by decide +kernel
theorem dX0_leaveOut_8 : decode mX0_leaveOut.2.2.1 8 = .ok (.iadd, 1) := by decide +kernel
theorem dX0_leaveOut_9 : decode mX0_leaveOut.2.2.1 9 = .ok (.aload_n 0, 1) := by decide +kernel
theorem dX0_leaveOut_10 : decode mX0_leaveOut.2.2.1 10 = .ok (.getfield 9, 3) := by decide +kernel
theorem dX0_leaveOut_13 : decode mX0_leaveOut.2.2.1 13 = .ok (.arraylength, 1) := by decide +kernel
theorem dX0_leaveOut_14 : decode mX0_leaveOut.2.2.1 14 = .ok (.if_icmp .ge 23, 3) := by decide +kernel
theorem dX0_leaveOut_17 : decode mX0_leaveOut.2.2.1 17 = .ok (.aload_n 0, 1) := by decide +kernel
theorem dX0_leaveOut_18 : decode mX0_leaveOut.2.2.1 18 = .ok (.getfield 9, 3) := by decide +kernel
theorem dX0_leaveOut_21 : decode mX0_leaveOut.2.2.1 21 = .ok (.iload_n 2, 1) := by decide +kernel
theorem dX0_leaveOut_22 : decode mX0_leaveOut.2.2.1 22 = .ok (.aload_n 0, 1) := by decide +kernel
theorem dX0_leaveOut_23 : decode mX0_leaveOut.2.2.1 23 = .ok (.getfield 9, 3) := by decide +kernel
theorem dX0_leaveOut_26 : decode mX0_leaveOut.2.2.1 26 = .ok (.iload_n 2, 1) := by decide +kernel
theorem dX0_leaveOut_27 : decode mX0_leaveOut.2.2.1 27 = .ok (.iconst 1, 1) := by decide +kernel
theorem dX0_leaveOut_28 : decode mX0_leaveOut.2.2.1 28 = .ok (.iadd, 1) := by decide +kernel
theorem dX0_leaveOut_29 : decode mX0_leaveOut.2.2.1 29 = .ok (.iaload, 1) := by decide +kernel
theorem dX0_leaveOut_30 : decode mX0_leaveOut.2.2.1 30 = .ok (.iastore, 1) := by decide +kernel
theorem dX0_leaveOut_31 : decode mX0_leaveOut.2.2.1 31 = .ok (.iinc 2 1, 3) := by decide +kernel
theorem dX0_leaveOut_34 : decode mX0_leaveOut.2.2.1 34 = .ok (.goto (-32), 3) := by decide +kernel
theorem dX0_leaveOut_37 : decode mX0_leaveOut.2.2.1 37 = .ok (.aload_n 0, 1) := by decide +kernel
theorem dX0_leaveOut_38 : decode mX0_leaveOut.2.2.1 38 = .ok (.getfield 9, 3) := by decide +kernel
theorem dX0_leaveOut_41 : decode mX0_leaveOut.2.2.1 41 = .ok (.aload_n 0, 1) := by decide +kernel
theorem dX0_leaveOut_42 : decode mX0_leaveOut.2.2.1 42 = .ok (.getfield 9, 3) := by decide +kernel
theorem dX0_leaveOut_45 : decode mX0_leaveOut.2.2.1 45 = .ok (.arraylength, 1) := by decide +kernel
theorem dX0_leaveOut_46 : decode mX0_leaveOut.2.2.1 46 = .ok (.iconst 1, 1) := by decide +kernel
theorem dX0_leaveOut_47 : decode mX0_leaveOut.2.2.1 47 = .ok (.isub, 1) := by decide +kernel
theorem dX0_leaveOut_48 : decode mX0_leaveOut.2.2.1 48 = .ok (.iconst 0, 1) := by decide +kernel
theorem dX0_leaveOut_49 : decode mX0_leaveOut.2.2.1 49 = .ok (.iastore, 1) := by decide +kernel
theorem dX0_leaveOut_50 : decode mX0_leaveOut.2.2.1 50 = .ok (.aload_n 0, 1) := by decide +kernel
theorem dX0_leaveOut_51 : decode mX0_leaveOut.2.2.1 51 = .ok (.dup, 1) := by decide +kernel
theorem dX0_leaveOut_52 : decode mX0_leaveOut.2.2.1 52 = .ok (.getfield 15, 3) := by decide +kernel
theorem dX0_leaveOut_55 : decode mX0_leaveOut.2.2.1 55 = .ok (.iconst 1, 1) := by decide +kernel
theorem dX0_leaveOut_56 : decode mX0_leaveOut.2.2.1 56 = .ok (.isub, 1) := by decide +kernel
theorem dX0_leaveOut_57 : decode mX0_leaveOut.2.2.1 57 = .ok (.putfield 15, 3) := by decide +kernel
theorem dX0_leaveOut_60 : decode mX0_leaveOut.2.2.1 60 = .ok (.return_, 1) := by decide +kernel
theorem dX0_canBeToppedUp_0 : decode mX0_canBeToppedUp.2.2.1 0 = .ok (.iconst 0, 1) := by decide +kernel
theorem dX0_canBeToppedUp_1 : decode mX0_canBeToppedUp.2.2.1 1 = .ok (.istore_n 1, 1) := by decide +kernel
theorem dX0_canBeToppedUp_2 : decode mX0_canBeToppedUp.2.2.1 2 = .ok (.iload_n 1, 1) := by decide +kernel
theorem dX0_canBeToppedUp_3 : decode mX0_canBeToppedUp.2.2.1 3 = .ok (.aload_n 0, 1) := by decide +kernel
theorem dX0_canBeToppedUp_4 : decode mX0_canBeToppedUp.2.2.1 4 = .ok (.getfield 15, 3) := by decide +kernel
theorem dX0_canBeToppedUp_7 : decode mX0_canBeToppedUp.2.2.1 7 = .ok (.iconst 1, 1) := by decide +kernel
theorem dX0_canBeToppedUp_8 : decode mX0_canBeToppedUp.2.2.1 8 = .ok (.isub, 1) := by decide +kernel
theorem dX0_canBeToppedUp_9 : decode mX0_canBeToppedUp.2.2.1 9 = .ok (.if_icmp .ge 32, 3) := by decide +kernel
theorem dX0_canBeToppedUp_12 : decode mX0_canBeToppedUp.2.2.1 12 = .ok (.iload_n 1, 1) := by decide +kernel
theorem dX0_canBeToppedUp_13 : decode mX0_canBeToppedUp.2.2.1 13 = .ok (.aload_n 0, 1) := by decide +kernel
theorem dX0_canBeToppedUp_14 : decode mX0_canBeToppedUp.2.2.1 14 = .ok (.getfield 9, 3) := by decide +kernel
theorem dX0_canBeToppedUp_17 : decode mX0_canBeToppedUp.2.2.1 17 = .ok (.arraylength, 1) := by decide +kernel
theorem dX0_canBeToppedUp_18 : decode mX0_canBeToppedUp.2.2.1 18 = .ok (.if_icmp .ge 23, 3) := by decide +kernel
theorem dX0_canBeToppedUp_21 : decode mX0_canBeToppedUp.2.2.1 21 = .ok (.aload_n 0, 1) := by decide +kernel
theorem dX0_canBeToppedUp_22 : decode mX0_canBeToppedUp.2.2.1 22 = .ok (.getfield 9, 3) := by decide +kernel
theorem dX0_canBeToppedUp_25 : decode mX0_canBeToppedUp.2.2.1 25 = .ok (.iload_n 1, 1) := by decide +kernel
theorem dX0_canBeToppedUp_26 : decode mX0_canBeToppedUp.2.2.1 26 = .ok (.iaload, 1) := by decide +kernel
theorem dX0_canBeToppedUp_27 : decode mX0_canBeToppedUp.2.2.1 27 = .ok (.sipush 2250, 3) := by decide +kernel
theorem dX0_canBeToppedUp_30 : decode mX0_canBeToppedUp.2.2.1 30 = .ok (.if_icmp .ge 5, 3) := by decide +kernel
theorem dX0_canBeToppedUp_33 : decode mX0_canBeToppedUp.2.2.1 33 = .ok (.iconst 1, 1) := by decide +kernel
theorem dX0_canBeToppedUp_34 : decode mX0_canBeToppedUp.2.2.1 34 = .ok (.ireturn, 1) := by decide +kernel
theorem dX0_canBeToppedUp_35 : decode mX0_canBeToppedUp.2.2.1 35 = .ok (.iinc 1 1, 3) := by decide +kernel
theorem dX0_canBeToppedUp_38 : decode mX0_canBeToppedUp.2.2.1 38 = .ok (.goto (-36), 3) := by decide +kernel
theorem dX0_canBeToppedUp_41 : decode mX0_canBeToppedUp.2.2.1 41 = .ok (.iconst 0, 1) := by decide +kernel
theorem dX0_canBeToppedUp_42 : decode mX0_canBeToppedUp.2.2.1 42 = .ok (.ireturn, 1) := by decide +kernel
theorem dX0_topUp_0 : decode mX0_topUp.2.2.1 0 = .ok (.iconst 0, 1) := by decide +kernel
theorem dX0_topUp_1 : decode mX0_topUp.2.2.1 1 = .ok (.istore_n 1, 1) := by decide +kernel
theorem dX0_topUp_2 : decode mX0_topUp.2.2.1 2 = .ok (.iconst 0, 1) := by decide +kernel
theorem dX0_topUp_3 : decode mX0_topUp.2.2.1 3 = .ok (.istore_n 2, 1) := by decide +kernel
theorem dX0_topUp_4 : decode mX0_topUp.2.2.1 4 = .ok (.iload_n 2, 1) := by decide +kernel
theorem dX0_topUp_5 : decode mX0_topUp.2.2.1 5 = .ok (.bipush 24, 2) := by decide +kernel
theorem dX0_topUp_7 : decode mX0_topUp.2.2.1 7 = .ok (.if_icmp .ge 115, 3) := by decide +kernel
theorem dX0_topUp_10 : decode mX0_topUp.2.2.1 10 = .ok (.iload_n 1, 1) := by decide +kernel
theorem dX0_topUp_11 : decode mX0_topUp.2.2.1 11 = .ok (.aload_n 0, 1) := by decide +kernel
theorem dX0_topUp_12 : decode mX0_topUp.2.2.1 12 = .ok (.getfield 15, 3) := by decide +kernel
theorem dX0_topUp_15 : decode mX0_topUp.2.2.1 15 = .ok (.iconst 1, 1) := by decide +kernel
theorem dX0_topUp_16 : decode mX0_topUp.2.2.1 16 = .ok (.isub, 1) := by decide +kernel
theorem dX0_topUp_17 : decode mX0_topUp.2.2.1 17 = .ok (.if_icmp .ge 105, 3) := by decide +kernel
theorem dX0_topUp_20 : decode mX0_topUp.2.2.1 20 = .ok (.aload_n 0, 1) := by decide +kernel
theorem dX0_topUp_21 : decode mX0_topUp.2.2.1 21 = .ok (.getfield 15, 3) := by decide +kernel
theorem dX0_topUp_24 : decode mX0_topUp.2.2.1 24 = .ok (.aload_n 0, 1) := by decide +kernel
theorem dX0_topUp_25 : decode mX0_topUp.2.2.1 25 = .ok (.getfield 9, 3) := by decide +kernel
theorem dX0_topUp_28 : decode mX0_topUp.2.2.1 28 = .ok (.arraylength, 1) := by decide +kernel
theorem dX0_topUp_29 : decode mX0_topUp.2.2.1 29 = .ok (.if_icmp .gt 93, 3) := by decide +kernel
theorem dX0_topUp_32 : decode mX0_topUp.2.2.1 32 = .ok (.aload_n 0, 1) := by decide +kernel
theorem dX0_topUp_33 : decode mX0_topUp.2.2.1 33 = .ok (.getfield 15, 3) := by decide +kernel
theorem dX0_topUp_36 : decode mX0_topUp.2.2.1 36 = .ok (.iconst 1, 1) := by decide +kernel
theorem dX0_topUp_37 : decode mX0_topUp.2.2.1 37 = .ok (.isub, 1) := by decide +kernel
theorem dX0_topUp_38 : decode mX0_topUp.2.2.1 38 = .ok (.istore_n 3, 1) := by decide +kernel
theorem dX0_topUp_39 : decode mX0_topUp.2.2.1 39 = .ok (.sipush 2250, 3) := by decide +kernel
theorem dX0_topUp_42 : decode mX0_topUp.2.2.1 42 = .ok (.aload_n 0, 1) := by decide +kernel
theorem dX0_topUp_43 : decode mX0_topUp.2.2.1 43 = .ok (.getfield 9, 3) := by decide +kernel
theorem dX0_topUp_46 : decode mX0_topUp.2.2.1 46 = .ok (.iload_n 1, 1) := by decide +kernel
theorem dX0_topUp_47 : decode mX0_topUp.2.2.1 47 = .ok (.iaload, 1) := by decide +kernel
theorem dX0_topUp_48 : decode mX0_topUp.2.2.1 48 = .ok (.isub, 1) := by decide +kernel
theorem dX0_topUp_49 : decode mX0_topUp.2.2.1 49 = .ok (.aload_n 0, 1) := by decide +kernel
theorem dX0_topUp_50 : decode mX0_topUp.2.2.1 50 = .ok (.getfield 9, 3) := by decide +kernel
theorem dX0_topUp_53 : decode mX0_topUp.2.2.1 53 = .ok (.iload_n 3, 1) := by decide +kernel
theorem dX0_topUp_54 : decode mX0_topUp.2.2.1 54 = .ok (.iaload, 1) := by decide +kernel
theorem dX0_topUp_55 : decode mX0_topUp.2.2.1 55 = .ok (.invokestatic 34, 3) := by decide +kernel
theorem dX0_topUp_58 : decode mX0_topUp.2.2.1 58 = .ok (.istore 4, 2) := by decide +kernel
theorem dX0_topUp_60 : decode mX0_topUp.2.2.1 60 = .ok (.aload_n 0, 1) := by decide +kernel
theorem dX0_topUp_61 : decode mX0_topUp.2.2.1 61 = .ok (.getfield 9, 3) := by decide +kernel
theorem dX0_topUp_64 : decode mX0_topUp.2.2.1 64 = .ok (.iload_n 1, 1) := by decide +kernel
theorem dX0_topUp_65 : decode mX0_topUp.2.2.1 65 = .ok (.dup2, 1) := by decide +kernel
theorem dX0_topUp_66 : decode mX0_topUp.2.2.1 66 = .ok (.iaload, 1) := by decide +kernel
theorem dX0_topUp_67 : decode mX0_topUp.2.2.1 67 = .ok (.iload 4, 2) := by decide +kernel
theorem dX0_topUp_69 : decode mX0_topUp.2.2.1 69 = .ok (.iadd, 1) := by decide +kernel
theorem dX0_topUp_70 : decode mX0_topUp.2.2.1 70 = .ok (.iastore, 1) := by decide +kernel
theorem dX0_topUp_71 : decode mX0_topUp.2.2.1 71 = .ok (.aload_n 0, 1) := by decide +kernel
theorem dX0_topUp_72 : decode mX0_topUp.2.2.1 72 = .ok (.getfield 9, 3) := by decide +kernel
theorem dX0_topUp_75 : decode mX0_topUp.2.2.1 75 = .ok (.iload_n 3, 1) := by decide +kernel
theorem dX0_topUp_76 : decode mX0_topUp.2.2.1 76 = .ok (.dup2, 1) := by decide +kernel
theorem dX0_topUp_77 : decode mX0_topUp.2.2.1 77 = .ok (.iaload, 1) := by decide +kernel
theorem dX0_topUp_78 : decode mX0_topUp.2.2.1 78 = .ok (.iload 4, 2) := by decide +kernel
theorem dX0_topUp_80 : decode mX0_topUp.2.2.1 80 = .ok (.isub, 1) := by decide +kernel
theorem dX0_topUp_81 : decode mX0_topUp.2.2.1 81 = .ok (.iastore, 1) := by decide +kernel
theorem dX0_topUp_82 : decode mX0_topUp.2.2.1 82 = .ok (.aload_n 0, 1) := by decide +kernel
theorem dX0_topUp_83 : decode mX0_topUp.2.2.1 83 = .ok (.getfield 9, 3) := by decide +kernel
theorem dX0_topUp_86 : decode mX0_topUp.2.2.1 86 = .ok (.iload_n 3, 1) := by decide +kernel
theorem dX0_topUp_87 : decode mX0_topUp.2.2.1 87 = .ok (.iaload, 1) := by decide +kernel
theorem dX0_topUp_88 : decode mX0_topUp.2.2.1 88 = .ok (.ifCond .ne 13, 3) := by decide +kernel
theorem dX0_topUp_91 : decode mX0_topUp.2.2.1 91 = .ok (.aload_n 0, 1) := by decide +kernel
theorem dX0_topUp_92 : decode mX0_topUp.2.2.1 92 = .ok (.dup, 1) := by decide +kernel
theorem dX0_topUp_93 : decode mX0_topUp.2.2.1 93 = .ok (.getfield 15, 3) := by decide +kernel
theorem dX0_topUp_96 : decode mX0_topUp.2.2.1 96 = .ok (.iconst 1, 1) := by decide +kernel
theorem dX0_topUp_97 : decode mX0_topUp.2.2.1 97 = .ok (.isub, 1) := by decide +kernel
theorem dX0_topUp_98 : decode mX0_topUp.2.2.1 98 = .ok (.putfield 15, 3) := by decide +kernel
theorem dX0_topUp_101 : decode mX0_topUp.2.2.1 101 = .ok (.aload_n 0, 1) := by decide +kernel
theorem dX0_topUp_102 : decode mX0_topUp.2.2.1 102 = .ok (.getfield 9, 3) := by decide +kernel
theorem dX0_topUp_105 : decode mX0_topUp.2.2.1 105 = .ok (.iload_n 1, 1) := by decide +kernel
theorem dX0_topUp_106 : decode mX0_topUp.2.2.1 106 = .ok (.iaload, 1) := by decide +kernel
theorem dX0_topUp_107 : decode mX0_topUp.2.2.1 107 = .ok (.sipush 2250, 3) := by decide +kernel
theorem dX0_topUp_110 : decode mX0_topUp.2.2.1 110 = .ok (.if_icmp .lt 6, 3) := by decide +kernel
theorem dX0_topUp_113 : decode mX0_topUp.2.2.1 113 = .ok (.iinc 1 1, 3) := by decide +kernel
theorem dX0_topUp_116 : decode mX0_topUp.2.2.1 116 = .ok (.iinc 2 1, 3) := by decide +kernel
theorem dX0_topUp_119 : decode mX0_topUp.2.2.1 119 = .ok (.goto (-115), 3) := by decide +kernel
theorem dX0_topUp_122 : decode mX0_topUp.2.2.1 122 = .ok (.return_, 1) := by decide +kernel
theorem dX1_init_0 : decode mX1_init.2.2.1 0 = .ok (.aload_n 0, 1) := by decide +kernel
theorem dX1_init_1 : decode mX1_init.2.2.1 1 = .ok (.invokespecial 3, 3) := by decide +kernel
theorem dX1_init_4 : decode mX1_init.2.2.1 4 = .ok (.aload_n 0, 1) := by decide +kernel
theorem dX1_init_5 : decode mX1_init.2.2.1 5 = .ok (.bipush 72, 2) := by decide +kernel
theorem dX1_init_7 : decode mX1_init.2.2.1 7 = .ok (.newarray .int, 2) := by decide +kernel
theorem dX1_init_9 : decode mX1_init.2.2.1 9 = .ok (.putfield 9, 3) := by decide +kernel
theorem dX1_init_12 : decode mX1_init.2.2.1 12 = .ok (.return_, 1) := by decide +kernel
theorem dX1_copyBook_0 : decode mX1_copyBook.2.2.1 0 = .ok (.aload_n 1, 1) := by decide +kernel
theorem dX1_copyBook_1 : decode mX1_copyBook.2.2.1 1 = .ok (.getfield 9, 3) := by decide +kernel
theorem dX1_copyBook_4 : decode mX1_copyBook.2.2.1 4 = .ok (.aload_n 0, 1) := by decide +kernel
theorem dX1_copyBook_5 : decode mX1_copyBook.2.2.1 5 = .ok (.getfield 9, 3) := by decide +kernel
theorem dX1_copyBook_8 : decode mX1_copyBook.2.2.1 8 = .ok (.invokestatic 15, 3) := by decide +kernel
theorem dX1_copyBook_11 : decode mX1_copyBook.2.2.1 11 = .ok (.aload_n 0, 1) := by decide +kernel
theorem dX1_copyBook_12 : decode mX1_copyBook.2.2.1 12 = .ok (.aload_n 1, 1) := by decide +kernel
theorem dX1_copyBook_13 : decode mX1_copyBook.2.2.1 13 = .ok (.getfield 19, 3) := by decide +kernel
theorem dX1_copyBook_16 : decode mX1_copyBook.2.2.1 16 = .ok (.putfield 19, 3) := by decide +kernel
theorem dX1_copyBook_19 : decode mX1_copyBook.2.2.1 19 = .ok (.return_, 1) := by decide +kernel
theorem dX1_write_0 : decode mX1_write.2.2.1 0 = .ok (.aload_n 0, 1) := by decide +kernel
theorem dX1_write_1 : decode mX1_write.2.2.1 1 = .ok (.getfield 9, 3) := by decide +kernel
theorem dX1_write_4 : decode mX1_write.2.2.1 4 = .ok (.arraylength, 1) := by decide +kernel
theorem dX1_write_5 : decode mX1_write.2.2.1 5 = .ok (.iconst 1, 1) := by decide +kernel
theorem dX1_write_6 : decode mX1_write.2.2.1 6 = .ok (.isub, 1) := by decide +kernel
theorem dX1_write_7 : decode mX1_write.2.2.1 7 = .ok (.istore 7, 2) := by decide +kernel
theorem dX1_write_9 : decode mX1_write.2.2.1 9 = .ok (.iload 7, 2) := by decide +kernel
theorem dX1_write_11 : decode mX1_write.2.2.1 11 = .ok (.bipush 6, 2) := by decide +kernel
theorem dX1_write_13 : decode mX1_write.2.2.1 13 = .ok (.if_icmp .lt 26, 3) := by decide +kernel
theorem dX1_write_16 : decode mX1_write.2.2.1 16 = .ok (.aload_n 0, 1) := by decide +kernel
theorem dX1_write_17 : decode mX1_write.2.2.1 17 = .ok (.getfield 9, 3) := by decide +kernel
theorem dX1_write_20 : decode mX1_write.2.2.1 20 = .ok (.iload 7, 2) := by decide +kernel
theorem dX1_write_22 : decode mX1_write.2.2.1 22 = .ok (.aload_n 0, 1) := by decide +kernel
theorem dX1_write_23 : decode mX1_write.2.2.1 23 = .ok (.getfield 9, 3) := by decide +kernel
theorem dX1_write_26 : decode mX1_write.2.2.1 26 = .ok (.iload 7, 2) := by decide +kernel
theorem dX1_write_28 : decode mX1_write.2.2.1 28 = .ok (.bipush 6, 2) := by decide +kernel
theorem dX1_write_30 : decode mX1_write.2.2.1 30 = .ok (.isub, 1) := by decide +kernel
theorem dX1_write_31 : decode mX1_write.2.2.1 31 = .ok (.iaload, 1) := by decide +kernel
theorem dX1_write_32 : decode mX1_write.2.2.1 32 = .ok (.iastore, 1) := by decide +kernel
theorem dX1_write_33 : decode mX1_write.2.2.1 33 = .ok (.iinc 7 (-1), 3) := by decide +kernel
theorem dX1_write_36 : decode mX1_write.2.2.1 36 = .ok (.goto (-27), 3) := by decide +kernel
theorem dX1_write_39 : decode mX1_write.2.2.1 39 = .ok (.aload_n 0, 1) := by decide +kernel
theorem dX1_write_40 : decode mX1_write.2.2.1 40 = .ok (.getfield 9, 3) := by decide +kernel
theorem dX1_write_43 : decode mX1_write.2.2.1 43 = .ok (.iconst 0, 1) := by decide +kernel
theorem dX1_write_44 : decode mX1_write.2.2.1 44 = .ok (.iload_n 1, 1) := by decide +kernel
theorem dX1_write_45 : decode mX1_write.2.2.1 45 = .ok (.iastore, 1) := by decide +kernel
theorem dX1_write_46 : decode mX1_write.2.2.1 46 = .ok (.aload_n 0, 1) := by decide +kernel
theorem dX1_write_47 : decode mX1_write.2.2.1 47 = .ok (.getfield 9, 3) := by decide +kernel
theorem dX1_write_50 : decode mX1_write.2.2.1 50 = .ok (.iconst 1, 1) := by decide +kernel
theorem dX1_write_51 : decode mX1_write.2.2.1 51 = .ok (.iload_n 2, 1) := by decide +kernel
theorem dX1_write_52 : decode mX1_write.2.2.1 52 = .ok (.iastore, 1) := by decide +kernel
theorem dX1_write_53 : decode mX1_write.2.2.1 53 = .ok (.aload_n 0, 1) := by decide +kernel
theorem dX1_write_54 : decode mX1_write.2.2.1 54 = .ok (.getfield 9, 3) := by decide +kernel
theorem dX1_write_57 : decode mX1_write.2.2.1 57 = .ok (.iconst 2, 1) := by decide +kernel
theorem dX1_write_58 : decode mX1_write.2.2.1 58 = .ok (.iload_n 3, 1) := by decide +kernel
theorem dX1_write_59 : decode mX1_write.2.2.1 59 = .ok (.iastore, 1) := by decide +kernel
theorem dX1_write_60 : decode mX1_write.2.2.1 60 = .ok (.aload_n 0, 1) := by decide +kernel
theorem dX1_write_61 : decode mX1_write.2.2.1 61 = .ok (.getfield 9, 3) := by decide +kernel
theorem dX1_write_64 : decode mX1_write.2.2.1 64 = .ok (.iconst 3, 1) := by decide +kernel
theorem dX1_write_65 : decode mX1_write.2.2.1 65 = .ok (.iload 4, 2) := by decide +kernel
theorem dX1_write_67 : decode mX1_write.2.2.1 67 = .ok (.iastore, 1) := by decide +kernel
theorem dX1_write_68 : decode mX1_write.2.2.1 68 = .ok (.aload_n 0, 1) := by decide +kernel
theorem dX1_write_69 : decode mX1_write.2.2.1 69 = .ok (.getfield 9, 3) := by decide +kernel
theorem dX1_write_72 : decode mX1_write.2.2.1 72 = .ok (.iconst 4, 1) := by decide +kernel
theorem dX1_write_73 : decode mX1_write.2.2.1 73 = .ok (.iload 5, 2) := by decide +kernel
theorem dX1_write_75 : decode mX1_write.2.2.1 75 = .ok (.iastore, 1) := by decide +kernel
theorem dX1_write_76 : decode mX1_write.2.2.1 76 = .ok (.aload_n 0, 1) := by decide +kernel
theorem dX1_write_77 : decode mX1_write.2.2.1 77 = .ok (.getfield 9, 3) := by decide +kernel
theorem dX1_write_80 : decode mX1_write.2.2.1 80 = .ok (.iconst 5, 1) := by decide +kernel
theorem dX1_write_81 : decode mX1_write.2.2.1 81 = .ok (.iload 6, 2) := by decide +kernel
theorem dX1_write_83 : decode mX1_write.2.2.1 83 = .ok (.iastore, 1) := by decide +kernel
theorem dX1_write_84 : decode mX1_write.2.2.1 84 = .ok (.aload_n 0, 1) := by decide +kernel
theorem dX1_write_85 : decode mX1_write.2.2.1 85 = .ok (.getfield 19, 3) := by decide +kernel
theorem dX1_write_88 : decode mX1_write.2.2.1 88 = .ok (.bipush 12, 2) := by decide +kernel
theorem dX1_write_90 : decode mX1_write.2.2.1 90 = .ok (.if_icmp .ge 13, 3) := by decide +kernel
theorem dX1_write_93 : decode mX1_write.2.2.1 93 = .ok (.aload_n 0, 1) := by decide +kernel
theorem dX1_write_94 : decode mX1_write.2.2.1 94 = .ok (.dup, 1) := by decide +kernel
theorem dX1_write_95 : decode mX1_write.2.2.1 95 = .ok (.getfield 19, 3) := by decide +kernel
theorem dX1_write_98 : decode mX1_write.2.2.1 98 = .ok (.iconst 1, 1) := by decide +kernel
theorem dX1_write_99 : decode mX1_write.2.2.1 99 = .ok (.iadd, 1) := by decide +kernel
theorem dX1_write_100 : decode mX1_write.2.2.1 100 = .ok (.putfield 19, 3) := by decide +kernel
theorem dX1_write_103 : decode mX1_write.2.2.1 103 = .ok (.return_, 1) := by decide +kernel
theorem dX1_cell_0 : decode mX1_cell.2.2.1 0 = .ok (.iload_n 1, 1) := by decide +kernel
theorem dX1_cell_1 : decode mX1_cell.2.2.1 1 = .ok (.ifCond .lt 12, 3) := by decide +kernel
theorem dX1_cell_4 : decode mX1_cell.2.2.1 4 = .ok (.iload_n 2, 1) := by decide +kernel
theorem dX1_cell_5 : decode mX1_cell.2.2.1 5 = .ok (.iconst 0, 1) := by decide +kernel
theorem dX1_cell_6 : decode mX1_cell.2.2.1 6 = .ok (.iconst 5, 1) := by decide +kernel
theorem dX1_cell_7 : decode mX1_cell.2.2.1 7 = .ok (.invokestatic 23, 3) := by decide +kernel
theorem dX1_cell_10 : decode mX1_cell.2.2.1 10 = .ok (.ifCond .ne 6, 3) := by decide +kernel
theorem dX1_cell_13 : decode mX1_cell.2.2.1 13 = .ok (.ldc 27, 2) := by decide +kernel
theorem dX1_cell_15 : decode mX1_cell.2.2.1 15 = .ok (.ireturn, 1) := by decide +kernel
theorem dX1_cell_16 : decode mX1_cell.2.2.1 16 = .ok (.iload_n 1, 1) := by decide +kernel
theorem dX1_cell_17 : decode mX1_cell.2.2.1 17 = .ok (.aload_n 0, 1) := by decide +kernel
theorem dX1_cell_18 : decode mX1_cell.2.2.1 18 = .ok (.getfield 19, 3) := by decide +kernel
theorem dX1_cell_21 : decode mX1_cell.2.2.1 21 = .ok (.if_icmp .ge 9, 3) := by decide +kernel
theorem dX1_cell_24 : decode mX1_cell.2.2.1 24 = .ok (.iload_n 1, 1) := by decide +kernel
theorem dX1_cell_25 : decode mX1_cell.2.2.1 25 = .ok (.bipush 12, 2) := by decide +kernel
theorem dX1_cell_27 : decode mX1_cell.2.2.1 27 = .ok (.if_icmp .lt 6, 3) := by decide +kernel
theorem dX1_cell_30 : decode mX1_cell.2.2.1 30 = .ok (.ldc 28, 2) := by decide +kernel
theorem dX1_cell_32 : decode mX1_cell.2.2.1 32 = .ok (.ireturn, 1) := by decide +kernel
theorem dX1_cell_33 : decode mX1_cell.2.2.1 33 = .ok (.aload_n 0, 1) := by decide +kernel
theorem dX1_cell_34 : decode mX1_cell.2.2.1 34 = .ok (.getfield 9, 3) := by decide +kernel
theorem dX1_cell_37 : decode mX1_cell.2.2.1 37 = .ok (.iload_n 1, 1) := by decide +kernel
theorem dX1_cell_38 : decode mX1_cell.2.2.1 38 = .ok (.bipush 6, 2) := by decide +kernel
theorem dX1_cell_40 : decode mX1_cell.2.2.1 40 = .ok (.imul, 1) := by decide +kernel
theorem dX1_cell_41 : decode mX1_cell.2.2.1 41 = .ok (.iload_n 2, 1) := by decide +kernel
theorem dX1_cell_42 : decode mX1_cell.2.2.1 42 = .ok (.iadd, 1) := by decide +kernel
theorem dX1_cell_43 : decode mX1_cell.2.2.1 43 = .ok (.iaload, 1) := by decide +kernel
theorem dX1_cell_44 : decode mX1_cell.2.2.1 44 = .ok (.ireturn, 1) := by decide +kernel
theorem dX2_init_0 : decode mX2_init.2.2.1 0 = .ok (.aload_n 0, 1) := by decide +kernel
theorem dX2_init_1 : decode mX2_init.2.2.1 1 = .ok (.invokespecial 3, 3) := by decide +kernel
theorem dX2_init_4 : decode mX2_init.2.2.1 4 = .ok (.aload_n 0, 1) := by decide +kernel
theorem dX2_init_5 : decode mX2_init.2.2.1 5 = .ok (.bipush 6, 2) := by decide +kernel
theorem dX2_init_7 : decode mX2_init.2.2.1 7 = .ok (.anewarray 9, 3) := by decide +kernel
theorem dX2_init_10 : decode mX2_init.2.2.1 10 = .ok (.putfield 11, 3) := by decide +kernel
theorem dX2_init_13 : decode mX2_init.2.2.1 13 = .ok (.aload_n 0, 1) := by decide +kernel
theorem dX2_init_14 : decode mX2_init.2.2.1 14 = .ok (.bipush 6, 2) := by decide +kernel
theorem dX2_init_16 : decode mX2_init.2.2.1 16 = .ok (.newarray .int, 2) := by decide +kernel
theorem dX2_init_18 : decode mX2_init.2.2.1 18 = .ok (.putfield 17, 3) := by decide +kernel
theorem dX2_init_21 : decode mX2_init.2.2.1 21 = .ok (.aload_n 0, 1) := by decide +kernel
theorem dX2_init_22 : decode mX2_init.2.2.1 22 = .ok (.new 21, 3) := by decide +kernel
theorem dX2_init_25 : decode mX2_init.2.2.1 25 = .ok (.dup, 1) := by decide +kernel
theorem dX2_init_26 : decode mX2_init.2.2.1 26 = .ok (.invokespecial 23, 3) := by decide +kernel
theorem dX2_init_29 : decode mX2_init.2.2.1 29 = .ok (.putfield 24, 3) := by decide +kernel
theorem dX2_init_32 : decode mX2_init.2.2.1 32 = .ok (.aload_n 0, 1) := by decide +kernel
theorem dX2_init_33 : decode mX2_init.2.2.1 33 = .ok (.new 28, 3) := by decide +kernel
theorem dX2_init_36 : decode mX2_init.2.2.1 36 = .ok (.dup, 1) := by decide +kernel
theorem dX2_init_37 : decode mX2_init.2.2.1 37 = .ok (.invokespecial 30, 3) := by decide +kernel
theorem dX2_init_40 : decode mX2_init.2.2.1 40 = .ok (.putfield 31, 3) := by decide +kernel
theorem dX2_init_43 : decode mX2_init.2.2.1 43 = .ok (.aload_n 0, 1) := by decide +kernel
theorem dX2_init_44 : decode mX2_init.2.2.1 44 = .ok (.bipush 10, 2) := by decide +kernel
theorem dX2_init_46 : decode mX2_init.2.2.1 46 = .ok (.putfield 35, 3) := by decide +kernel
theorem dX2_init_49 : decode mX2_init.2.2.1 49 = .ok (.aload_n 0, 1) := by decide +kernel
theorem dX2_init_50 : decode mX2_init.2.2.1 50 = .ok (.bipush 12, 2) := by decide +kernel
theorem dX2_init_52 : decode mX2_init.2.2.1 52 = .ok (.putfield 39, 3) := by decide +kernel
theorem dX2_init_55 : decode mX2_init.2.2.1 55 = .ok (.iconst 0, 1) := by decide +kernel
theorem dX2_init_56 : decode mX2_init.2.2.1 56 = .ok (.istore_n 1, 1) := by decide +kernel
theorem dX2_init_57 : decode mX2_init.2.2.1 57 = .ok (.iload_n 1, 1) := by decide +kernel
theorem dX2_init_58 : decode mX2_init.2.2.1 58 = .ok (.aload_n 0, 1) := by decide +kernel
theorem dX2_init_59 : decode mX2_init.2.2.1 59 = .ok (.getfield 11, 3) := by decide +kernel
theorem dX2_init_62 : decode mX2_init.2.2.1 62 = .ok (.arraylength, 1) := by decide +kernel
theorem dX2_init_63 : decode mX2_init.2.2.1 63 = .ok (.if_icmp .ge 22, 3) := by decide +kernel
theorem dX2_init_66 : decode mX2_init.2.2.1 66 = .ok (.aload_n 0, 1) := by decide +kernel
theorem dX2_init_67 : decode mX2_init.2.2.1 67 = .ok (.getfield 11, 3) := by decide +kernel
theorem dX2_init_70 : decode mX2_init.2.2.1 70 = .ok (.iload_n 1, 1) := by decide +kernel
theorem dX2_init_71 : decode mX2_init.2.2.1 71 = .ok (.new 9, 3) := by decide +kernel
theorem dX2_init_74 : decode mX2_init.2.2.1 74 = .ok (.dup, 1) := by decide +kernel
theorem dX2_init_75 : decode mX2_init.2.2.1 75 = .ok (.invokespecial 42, 3) := by decide +kernel
theorem dX2_init_78 : decode mX2_init.2.2.1 78 = .ok (.aastore, 1) := by decide +kernel
theorem dX2_init_79 : decode mX2_init.2.2.1 79 = .ok (.iinc 1 1, 3) := by decide +kernel
theorem dX2_init_82 : decode mX2_init.2.2.1 82 = .ok (.goto (-25), 3) := by decide +kernel
theorem dX2_init_85 : decode mX2_init.2.2.1 85 = .ok (.return_, 1) := by decide +kernel
theorem dX2_copyEstate_0 : decode mX2_copyEstate.2.2.1 0 = .ok (.iconst 0, 1) := by decide +kernel
theorem dX2_copyEstate_1 : decode mX2_copyEstate.2.2.1 1 = .ok (.istore_n 2, 1) := by decide +kernel
theorem dX2_copyEstate_2 : decode mX2_copyEstate.2.2.1 2 = .ok (.iload_n 2, 1) := by decide +kernel
theorem dX2_copyEstate_3 : decode mX2_copyEstate.2.2.1 3 = .ok (.aload_n 0, 1) := by decide +kernel
theorem dX2_copyEstate_4 : decode mX2_copyEstate.2.2.1 4 = .ok (.getfield 11, 3) := by decide +kernel
theorem dX2_copyEstate_7 : decode mX2_copyEstate.2.2.1 7 = .ok (.arraylength, 1) := by decide +kernel
theorem dX2_copyEstate_8 : decode mX2_copyEstate.2.2.1 8 = .ok (.if_icmp .ge 48, 3) := by decide +kernel
theorem dX2_copyEstate_11 : decode mX2_copyEstate.2.2.1 11 = .ok (.iload_n 2, 1) := by decide +kernel
theorem dX2_copyEstate_12 : decode mX2_copyEstate.2.2.1 12 = .ok (.aload_n 1, 1) := by decide +kernel
theorem dX2_copyEstate_13 : decode mX2_copyEstate.2.2.1 13 = .ok (.getfield 11, 3) := by decide +kernel
theorem dX2_copyEstate_16 : decode mX2_copyEstate.2.2.1 16 = .ok (.arraylength, 1) := by decide +kernel
theorem dX2_copyEstate_17 : decode mX2_copyEstate.2.2.1 17 = .ok (.if_icmp .ge 39, 3) := by decide +kernel
theorem dX2_copyEstate_20 : decode mX2_copyEstate.2.2.1 20 = .ok (.aload_n 1, 1) := by decide +kernel
theorem dX2_copyEstate_21 : decode mX2_copyEstate.2.2.1 21 = .ok (.getfield 11, 3) := by decide +kernel
theorem dX2_copyEstate_24 : decode mX2_copyEstate.2.2.1 24 = .ok (.iload_n 2, 1) := by decide +kernel
theorem dX2_copyEstate_25 : decode mX2_copyEstate.2.2.1 25 = .ok (.aaload, 1) := by decide +kernel
theorem dX2_copyEstate_26 : decode mX2_copyEstate.2.2.1 26 = .ok (.astore_n 3, 1) := by decide +kernel
theorem dX2_copyEstate_27 : decode mX2_copyEstate.2.2.1 27 = .ok (.aload_n 0, 1) := by decide +kernel
theorem dX2_copyEstate_28 : decode mX2_copyEstate.2.2.1 28 = .ok (.getfield 11, 3) := by decide +kernel
theorem dX2_copyEstate_31 : decode mX2_copyEstate.2.2.1 31 = .ok (.iload_n 2, 1) := by decide +kernel
theorem dX2_copyEstate_32 : decode mX2_copyEstate.2.2.1 32 = .ok (.aaload, 1) := by decide +kernel
theorem dX2_copyEstate_33 : decode mX2_copyEstate.2.2.1 33 = .ok (.astore 4, 2) := by decide +kernel
theorem dX2_copyEstate_35 : decode mX2_copyEstate.2.2.1 35 = .ok (.aload_n 3, 1) := by decide +kernel
theorem dX2_copyEstate_36 : decode mX2_copyEstate.2.2.1 36 = .ok (.ifnull 14, 3) := by decide +kernel
theorem dX2_copyEstate_39 : decode mX2_copyEstate.2.2.1 39 = .ok (.aload 4, 2) := by decide +kernel
theorem dX2_copyEstate_41 : decode mX2_copyEstate.2.2.1 41 = .ok (.ifnull 9, 3) := by decide +kernel
theorem dX2_copyEstate_44 : decode mX2_copyEstate.2.2.1 44 = .ok (.aload 4, 2) := by decide +kernel
theorem dX2_copyEstate_46 : decode mX2_copyEstate.2.2.1 46 = .ok (.aload_n 3, 1) := by decide +kernel
theorem dX2_copyEstate_47 : decode mX2_copyEstate.2.2.1 47 = .ok (.invokevirtual 43, 3) := by decide +kernel
theorem dX2_copyEstate_50 : decode mX2_copyEstate.2.2.1 50 = .ok (.iinc 2 1, 3) := by decide +kernel
theorem dX2_copyEstate_53 : decode mX2_copyEstate.2.2.1 53 = .ok (.goto (-51), 3) := by decide +kernel
theorem dX2_copyEstate_56 : decode mX2_copyEstate.2.2.1 56 = .ok (.aload_n 1, 1) := by decide +kernel
theorem dX2_copyEstate_57 : decode mX2_copyEstate.2.2.1 57 = .ok (.getfield 17, 3) := by decide +kernel
theorem dX2_copyEstate_60 : decode mX2_copyEstate.2.2.1 60 = .ok (.aload_n 0, 1) := by decide +kernel
theorem dX2_copyEstate_61 : decode mX2_copyEstate.2.2.1 61 = .ok (.getfield 17, 3) := by decide +kernel
theorem dX2_copyEstate_64 : decode mX2_copyEstate.2.2.1 64 = .ok (.invokestatic 47, 3) := by decide +kernel
theorem dX2_copyEstate_67 : decode mX2_copyEstate.2.2.1 67 = .ok (.aload_n 0, 1) := by decide +kernel
theorem dX2_copyEstate_68 : decode mX2_copyEstate.2.2.1 68 = .ok (.getfield 24, 3) := by decide +kernel
theorem dX2_copyEstate_71 : decode mX2_copyEstate.2.2.1 71 = .ok (.aload_n 1, 1) := by decide +kernel
theorem dX2_copyEstate_72 : decode mX2_copyEstate.2.2.1 72 = .ok (.getfield 24, 3) := by decide +kernel
theorem dX2_copyEstate_75 : decode mX2_copyEstate.2.2.1 75 = .ok (.invokevirtual 51, 3) := by decide +kernel
theorem dX2_copyEstate_78 : decode mX2_copyEstate.2.2.1 78 = .ok (.aload_n 0, 1) := by decide +kernel
theorem dX2_copyEstate_79 : decode mX2_copyEstate.2.2.1 79 = .ok (.aload_n 1, 1) := by decide +kernel
theorem dX2_copyEstate_80 : decode mX2_copyEstate.2.2.1 80 = .ok (.getfield 55, 3) := by decide +kernel
theorem dX2_copyEstate_83 : decode mX2_copyEstate.2.2.1 83 = .ok (.putfield 55, 3) := by decide +kernel
theorem dX2_copyEstate_86 : decode mX2_copyEstate.2.2.1 86 = .ok (.aload_n 0, 1) := by decide +kernel
theorem dX2_copyEstate_87 : decode mX2_copyEstate.2.2.1 87 = .ok (.aload_n 1, 1) := by decide +kernel
theorem dX2_copyEstate_88 : decode mX2_copyEstate.2.2.1 88 = .ok (.getfield 58, 3) := by decide +kernel
theorem dX2_copyEstate_91 : decode mX2_copyEstate.2.2.1 91 = .ok (.putfield 58, 3) := by decide +kernel
theorem dX2_copyEstate_94 : decode mX2_copyEstate.2.2.1 94 = .ok (.aload_n 0, 1) := by decide +kernel
theorem dX2_copyEstate_95 : decode mX2_copyEstate.2.2.1 95 = .ok (.aload_n 1, 1) := by decide +kernel
theorem dX2_copyEstate_96 : decode mX2_copyEstate.2.2.1 96 = .ok (.getfield 61, 3) := by decide +kernel
theorem dX2_copyEstate_99 : decode mX2_copyEstate.2.2.1 99 = .ok (.putfield 61, 3) := by decide +kernel
theorem dX2_copyEstate_102 : decode mX2_copyEstate.2.2.1 102 = .ok (.aload_n 0, 1) := by decide +kernel
theorem dX2_copyEstate_103 : decode mX2_copyEstate.2.2.1 103 = .ok (.aload_n 1, 1) := by decide +kernel
theorem dX2_copyEstate_104 : decode mX2_copyEstate.2.2.1 104 = .ok (.getfield 35, 3) := by decide +kernel
theorem dX2_copyEstate_107 : decode mX2_copyEstate.2.2.1 107 = .ok (.putfield 35, 3) := by decide +kernel
theorem dX2_copyEstate_110 : decode mX2_copyEstate.2.2.1 110 = .ok (.aload_n 0, 1) := by decide +kernel
theorem dX2_copyEstate_111 : decode mX2_copyEstate.2.2.1 111 = .ok (.aload_n 1, 1) := by decide +kernel
theorem dX2_copyEstate_112 : decode mX2_copyEstate.2.2.1 112 = .ok (.getfield 39, 3) := by decide +kernel
theorem dX2_copyEstate_115 : decode mX2_copyEstate.2.2.1 115 = .ok (.putfield 39, 3) := by decide +kernel
theorem dX2_copyEstate_118 : decode mX2_copyEstate.2.2.1 118 = .ok (.aload_n 0, 1) := by decide +kernel
theorem dX2_copyEstate_119 : decode mX2_copyEstate.2.2.1 119 = .ok (.aload_n 1, 1) := by decide +kernel
theorem dX2_copyEstate_120 : decode mX2_copyEstate.2.2.1 120 = .ok (.getfield 64, 3) := by decide +kernel
theorem dX2_copyEstate_123 : decode mX2_copyEstate.2.2.1 123 = .ok (.putfield 64, 3) := by decide +kernel
theorem dX2_copyEstate_126 : decode mX2_copyEstate.2.2.1 126 = .ok (.aload_n 0, 1) := by decide +kernel
theorem dX2_copyEstate_127 : decode mX2_copyEstate.2.2.1 127 = .ok (.aload_n 1, 1) := by decide +kernel
theorem dX2_copyEstate_128 : decode mX2_copyEstate.2.2.1 128 = .ok (.getfield 67, 3) := by decide +kernel
theorem dX2_copyEstate_131 : decode mX2_copyEstate.2.2.1 131 = .ok (.putfield 67, 3) := by decide +kernel
theorem dX2_copyEstate_134 : decode mX2_copyEstate.2.2.1 134 = .ok (.aload_n 0, 1) := by decide +kernel
theorem dX2_copyEstate_135 : decode mX2_copyEstate.2.2.1 135 = .ok (.aload_n 1, 1) := by decide +kernel
theorem dX2_copyEstate_136 : decode mX2_copyEstate.2.2.1 136 = .ok (.getfield 70, 3) := by decide +kernel
theorem dX2_copyEstate_139 : decode mX2_copyEstate.2.2.1 139 = .ok (.putfield 70, 3) := by decide +kernel
theorem dX2_copyEstate_142 : decode mX2_copyEstate.2.2.1 142 = .ok (.return_, 1) := by decide +kernel
theorem dX2_lotAt_0 : decode mX2_lotAt.2.2.1 0 = .ok (.iload_n 1, 1) := by decide +kernel
theorem dX2_lotAt_1 : decode mX2_lotAt.2.2.1 1 = .ok (.ifCond .lt 29, 3) := by decide +kernel
theorem dX2_lotAt_4 : decode mX2_lotAt.2.2.1 4 = .ok (.iload_n 1, 1) := by decide +kernel
theorem dX2_lotAt_5 : decode mX2_lotAt.2.2.1 5 = .ok (.aload_n 0, 1) := by decide +kernel
theorem dX2_lotAt_6 : decode mX2_lotAt.2.2.1 6 = .ok (.getfield 55, 3) := by decide +kernel
theorem dX2_lotAt_9 : decode mX2_lotAt.2.2.1 9 = .ok (.if_icmp .ge 21, 3) := by decide +kernel
theorem dX2_lotAt_12 : decode mX2_lotAt.2.2.1 12 = .ok (.iload_n 1, 1) := by decide +kernel
theorem dX2_lotAt_13 : decode mX2_lotAt.2.2.1 13 = .ok (.aload_n 0, 1) := by decide +kernel
theorem dX2_lotAt_14 : decode mX2_lotAt.2.2.1 14 = .ok (.getfield 11, 3) := by decide +kernel
theorem dX2_lotAt_17 : decode mX2_lotAt.2.2.1 17 = .ok (.arraylength, 1) := by decide +kernel
theorem dX2_lotAt_18 : decode mX2_lotAt.2.2.1 18 = .ok (.if_icmp .ge 12, 3) := by decide +kernel
theorem dX2_lotAt_21 : decode mX2_lotAt.2.2.1 21 = .ok (.aload_n 0, 1) := by decide +kernel
theorem dX2_lotAt_22 : decode mX2_lotAt.2.2.1 22 = .ok (.getfield 11, 3) := by decide +kernel
theorem dX2_lotAt_25 : decode mX2_lotAt.2.2.1 25 = .ok (.iload_n 1, 1) := by decide +kernel
theorem dX2_lotAt_26 : decode mX2_lotAt.2.2.1 26 = .ok (.aaload, 1) := by decide +kernel
theorem dX2_lotAt_27 : decode mX2_lotAt.2.2.1 27 = .ok (.goto 4, 3) := by decide +kernel
theorem dX2_lotAt_30 : decode mX2_lotAt.2.2.1 30 = .ok (.aconst_null, 1) := by decide +kernel
theorem dX2_lotAt_31 : decode mX2_lotAt.2.2.1 31 = .ok (.areturn, 1) := by decide +kernel
theorem dX2_hasBuyer_0 : decode mX2_hasBuyer.2.2.1 0 = .ok (.iload_n 1, 1) := by decide +kernel
theorem dX2_hasBuyer_1 : decode mX2_hasBuyer.2.2.1 1 = .ok (.ifCond .lt 24, 3) := by decide +kernel
theorem dX2_hasBuyer_4 : decode mX2_hasBuyer.2.2.1 4 = .ok (.iload_n 1, 1) := by decide +kernel
theorem dX2_hasBuyer_5 : decode mX2_hasBuyer.2.2.1 5 = .ok (.aload_n 0, 1) := by decide +kernel
theorem dX2_hasBuyer_6 : decode mX2_hasBuyer.2.2.1 6 = .ok (.getfield 58, 3) := by decide +kernel
theorem dX2_hasBuyer_9 : decode mX2_hasBuyer.2.2.1 9 = .ok (.if_icmp .ge 16, 3) := by decide +kernel
theorem dX2_hasBuyer_12 : decode mX2_hasBuyer.2.2.1 12 = .ok (.iload_n 1, 1) := by decide +kernel
theorem dX2_hasBuyer_13 : decode mX2_hasBuyer.2.2.1 13 = .ok (.aload_n 0, 1) := by decide +kernel
theorem dX2_hasBuyer_14 : decode mX2_hasBuyer.2.2.1 14 = .ok (.getfield 17, 3) := by decide +kernel
theorem dX2_hasBuyer_17 : decode mX2_hasBuyer.2.2.1 17 = .ok (.arraylength, 1) := by decide +kernel
theorem dX2_hasBuyer_18 : decode mX2_hasBuyer.2.2.1 18 = .ok (.if_icmp .ge 7, 3) := by decide +kernel
theorem dX2_hasBuyer_21 : decode mX2_hasBuyer.2.2.1 21 = .ok (.iconst 1, 1) := by decide +kernel
theorem dX2_hasBuyer_22 : decode mX2_hasBuyer.2.2.1 22 = .ok (.goto 4, 3) := by decide +kernel
theorem dX2_hasBuyer_25 : decode mX2_hasBuyer.2.2.1 25 = .ok (.iconst 0, 1) := by decide +kernel
theorem dX2_hasBuyer_26 : decode mX2_hasBuyer.2.2.1 26 = .ok (.ireturn, 1) := by decide +kernel
theorem dX2_payEstate_0 : decode mX2_payEstate.2.2.1 0 = .ok (.aload_n 0, 1) := by decide +kernel
theorem dX2_payEstate_1 : decode mX2_payEstate.2.2.1 1 = .ok (.iload_n 1, 1) := by decide +kernel
theorem dX2_payEstate_2 : decode mX2_payEstate.2.2.1 2 = .ok (.invokevirtual 73, 3) := by decide +kernel
theorem dX2_payEstate_5 : decode mX2_payEstate.2.2.1 5 = .ok (.ifCond .eq 23, 3) := by decide +kernel
theorem dX2_payEstate_8 : decode mX2_payEstate.2.2.1 8 = .ok (.aload_n 0, 1) := by decide +kernel
theorem dX2_payEstate_9 : decode mX2_payEstate.2.2.1 9 = .ok (.getfield 17, 3) := by decide +kernel
theorem dX2_payEstate_12 : decode mX2_payEstate.2.2.1 12 = .ok (.iload_n 1, 1) := by decide +kernel
theorem dX2_payEstate_13 : decode mX2_payEstate.2.2.1 13 = .ok (.dup2, 1) := by decide +kernel
theorem dX2_payEstate_14 : decode mX2_payEstate.2.2.1 14 = .ok (.iaload, 1) := by decide +kernel
theorem dX2_payEstate_15 : decode mX2_payEstate.2.2.1 15 = .ok (.iload_n 2, 1) := by decide +kernel
theorem dX2_payEstate_16 : decode mX2_payEstate.2.2.1 16 = .ok (.isub, 1) := by decide +kernel
theorem dX2_payEstate_17 : decode mX2_payEstate.2.2.1 17 = .ok (.iastore, 1) := by decide +kernel
theorem dX2_payEstate_18 : decode mX2_payEstate.2.2.1 18 = .ok (.aload_n 0, 1) := by decide +kernel
theorem dX2_payEstate_19 : decode mX2_payEstate.2.2.1 19 = .ok (.dup, 1) := by decide +kernel
theorem dX2_payEstate_20 : decode mX2_payEstate.2.2.1 20 = .ok (.getfield 61, 3) := by decide +kernel
theorem dX2_payEstate_23 : decode mX2_payEstate.2.2.1 23 = .ok (.iload_n 2, 1) := by decide +kernel
theorem dX2_payEstate_24 : decode mX2_payEstate.2.2.1 24 = .ok (.iadd, 1) := by decide +kernel
theorem dX2_payEstate_25 : decode mX2_payEstate.2.2.1 25 = .ok (.putfield 61, 3) := by decide +kernel
theorem dX2_payEstate_28 : decode mX2_payEstate.2.2.1 28 = .ok (.return_, 1) := by decide +kernel
theorem dX2_addLot_0 : decode mX2_addLot.2.2.1 0 = .ok (.iload_n 1, 1) := by decide +kernel
theorem dX2_addLot_1 : decode mX2_addLot.2.2.1 1 = .ok (.iconst 1, 1) := by decide +kernel
theorem dX2_addLot_2 : decode mX2_addLot.2.2.1 2 = .ok (.bipush 12, 2) := by decide +kernel
theorem dX2_addLot_4 : decode mX2_addLot.2.2.1 4 = .ok (.invokestatic 77, 3) := by decide +kernel
theorem dX2_addLot_7 : decode mX2_addLot.2.2.1 7 = .ok (.ifCond .eq 13, 3) := by decide +kernel
theorem dX2_addLot_10 : decode mX2_addLot.2.2.1 10 = .ok (.iload_n 2, 1) := by decide +kernel
theorem dX2_addLot_11 : decode mX2_addLot.2.2.1 11 = .ok (.iconst 0, 1) := by decide +kernel
theorem dX2_addLot_12 : decode mX2_addLot.2.2.1 12 = .ok (.bipush 50, 2) := by decide +kernel
theorem dX2_addLot_14 : decode mX2_addLot.2.2.1 14 = .ok (.invokestatic 77, 3) := by decide +kernel
theorem dX2_addLot_17 : decode mX2_addLot.2.2.1 17 = .ok (.ifCond .ne 6, 3) := by decide +kernel
theorem dX2_addLot_20 : decode mX2_addLot.2.2.1 20 = .ok (.ldc 81, 2) := by decide +kernel
theorem dX2_addLot_22 : decode mX2_addLot.2.2.1 22 = .ok (.ireturn, 1) := by decide +kernel
theorem dX2_addLot_23 : decode mX2_addLot.2.2.1 23 = .ok (.aload_n 0, 1) := by decide +kernel
theorem dX2_addLot_24 : decode mX2_addLot.2.2.1 24 = .ok (.getfield 55, 3) := by decide +kernel
theorem dX2_addLot_27 : decode mX2_addLot.2.2.1 27 = .ok (.bipush 6, 2) := by decide +kernel
theorem dX2_addLot_29 : decode mX2_addLot.2.2.1 29 = .ok (.if_icmp .lt 6, 3) := by decide +kernel
theorem dX2_addLot_32 : decode mX2_addLot.2.2.1 32 = .ok (.ldc 82, 2) := by decide +kernel
theorem dX2_addLot_34 : decode mX2_addLot.2.2.1 34 = .ok (.ireturn, 1) := by decide +kernel
theorem dX2_addLot_35 : decode mX2_addLot.2.2.1 35 = .ok (.aload_n 0, 1) := by decide +kernel
theorem dX2_addLot_36 : decode mX2_addLot.2.2.1 36 = .ok (.dup, 1) := by decide +kernel
theorem dX2_addLot_37 : decode mX2_addLot.2.2.1 37 = .ok (.getfield 55, 3) := by decide +kernel
theorem dX2_addLot_40 : decode mX2_addLot.2.2.1 40 = .ok (.iconst 1, 1) := by decide +kernel
theorem dX2_addLot_41 : decode mX2_addLot.2.2.1 41 = .ok (.iadd, 1) := by decide +kernel
theorem dX2_addLot_42 : decode mX2_addLot.2.2.1 42 = .ok (.putfield 55, 3) := by decide +kernel
theorem dX2_addLot_45 : decode mX2_addLot.2.2.1 45 = .ok (.aload_n 0, 1) := by decide +kernel
theorem dX2_addLot_46 : decode mX2_addLot.2.2.1 46 = .ok (.aload_n 0, 1) := by decide +kernel
theorem dX2_addLot_47 : decode mX2_addLot.2.2.1 47 = .ok (.getfield 55, 3) := by decide +kernel
theorem dX2_addLot_50 : decode mX2_addLot.2.2.1 50 = .ok (.iconst 1, 1) := by decide +kernel
theorem dX2_addLot_51 : decode mX2_addLot.2.2.1 51 = .ok (.isub, 1) := by decide +kernel
theorem dX2_addLot_52 : decode mX2_addLot.2.2.1 52 = .ok (.invokevirtual 83, 3) := by decide +kernel
theorem dX2_addLot_55 : decode mX2_addLot.2.2.1 55 = .ok (.astore_n 3, 1) := by decide +kernel
theorem dX2_addLot_56 : decode mX2_addLot.2.2.1 56 = .ok (.aload_n 3, 1) := by decide +kernel
theorem dX2_addLot_57 : decode mX2_addLot.2.2.1 57 = .ok (.ifnull 12, 3) := by decide +kernel
theorem dX2_addLot_60 : decode mX2_addLot.2.2.1 60 = .ok (.aload_n 3, 1) := by decide +kernel
theorem dX2_addLot_61 : decode mX2_addLot.2.2.1 61 = .ok (.getfield 87, 3) := by decide +kernel
theorem dX2_addLot_64 : decode mX2_addLot.2.2.1 64 = .ok (.iload_n 1, 1) := by decide +kernel
theorem dX2_addLot_65 : decode mX2_addLot.2.2.1 65 = .ok (.iload_n 2, 1) := by decide +kernel
theorem dX2_addLot_66 : decode mX2_addLot.2.2.1 66 = .ok (.invokevirtual 90, 3) := by decide +kernel
theorem dX2_addLot_69 : decode mX2_addLot.2.2.1 69 = .ok (.aload_n 0, 1) := by decide +kernel
theorem dX2_addLot_70 : decode mX2_addLot.2.2.1 70 = .ok (.getfield 55, 3) := by decide +kernel
theorem dX2_addLot_73 : decode mX2_addLot.2.2.1 73 = .ok (.iconst 1, 1) := by decide +kernel
theorem dX2_addLot_74 : decode mX2_addLot.2.2.1 74 = .ok (.isub, 1) := by decide +kernel
theorem dX2_addLot_75 : decode mX2_addLot.2.2.1 75 = .ok (.ireturn, 1) := by decide +kernel
theorem dX2_tasteLot_0 : decode mX2_tasteLot.2.2.1 0 = .ok (.aload_n 0, 1) := by decide +kernel
theorem dX2_tasteLot_1 : decode mX2_tasteLot.2.2.1 1 = .ok (.iload_n 1, 1) := by decide +kernel
theorem dX2_tasteLot_2 : decode mX2_tasteLot.2.2.1 2 = .ok (.invokevirtual 83, 3) := by decide +kernel
theorem dX2_tasteLot_5 : decode mX2_tasteLot.2.2.1 5 = .ok (.astore_n 3, 1) := by decide +kernel
theorem dX2_tasteLot_6 : decode mX2_tasteLot.2.2.1 6 = .ok (.aload_n 3, 1) := by decide +kernel
theorem dX2_tasteLot_7 : decode mX2_tasteLot.2.2.1 7 = .ok (.ifnull 13, 3) := by decide +kernel
theorem dX2_tasteLot_10 : decode mX2_tasteLot.2.2.1 10 = .ok (.iload_n 2, 1) := by decide +kernel
theorem dX2_tasteLot_11 : decode mX2_tasteLot.2.2.1 11 = .ok (.iconst 0, 1) := by decide +kernel
theorem dX2_tasteLot_12 : decode mX2_tasteLot.2.2.1 12 = .ok (.bipush 100, 2) := by decide +kernel
theorem dX2_tasteLot_14 : decode mX2_tasteLot.2.2.1 14 = .ok (.invokestatic 77, 3) := by decide +kernel
theorem dX2_tasteLot_17 : decode mX2_tasteLot.2.2.1 17 = .ok (.ifCond .ne 6, 3) := by decide +kernel
theorem dX2_tasteLot_20 : decode mX2_tasteLot.2.2.1 20 = .ok (.ldc 81, 2) := by decide +kernel
theorem dX2_tasteLot_22 : decode mX2_tasteLot.2.2.1 22 = .ok (.ireturn, 1) := by decide +kernel
theorem dX2_tasteLot_23 : decode mX2_tasteLot.2.2.1 23 = .ok (.aload_n 3, 1) := by decide +kernel
theorem dX2_tasteLot_24 : decode mX2_tasteLot.2.2.1 24 = .ok (.getfield 87, 3) := by decide +kernel
theorem dX2_tasteLot_27 : decode mX2_tasteLot.2.2.1 27 = .ok (.invokevirtual 94, 3) := by decide +kernel
theorem dX2_tasteLot_30 : decode mX2_tasteLot.2.2.1 30 = .ok (.istore 4, 2) := by decide +kernel
theorem dX2_tasteLot_32 : decode mX2_tasteLot.2.2.1 32 = .ok (.iload 4, 2) := by decide +kernel
theorem dX2_tasteLot_34 : decode mX2_tasteLot.2.2.1 34 = .ok (.ifCond .ge 6, 3) := by decide +kernel
theorem dX2_tasteLot_37 : decode mX2_tasteLot.2.2.1 37 = .ok (.ldc 98, 2) := by decide +kernel
theorem dX2_tasteLot_39 : decode mX2_tasteLot.2.2.1 39 = .ok (.ireturn, 1) := by decide +kernel
theorem dX2_tasteLot_40 : decode mX2_tasteLot.2.2.1 40 = .ok (.aload_n 3, 1) := by decide +kernel
theorem dX2_tasteLot_41 : decode mX2_tasteLot.2.2.1 41 = .ok (.getfield 87, 3) := by decide +kernel
theorem dX2_tasteLot_44 : decode mX2_tasteLot.2.2.1 44 = .ok (.iload 4, 2) := by decide +kernel
theorem dX2_tasteLot_46 : decode mX2_tasteLot.2.2.1 46 = .ok (.invokevirtual 99, 3) := by decide +kernel
theorem dX2_tasteLot_49 : decode mX2_tasteLot.2.2.1 49 = .ok (.aload_n 3, 1) := by decide +kernel
theorem dX2_tasteLot_50 : decode mX2_tasteLot.2.2.1 50 = .ok (.dup, 1) := by decide +kernel
theorem dX2_tasteLot_51 : decode mX2_tasteLot.2.2.1 51 = .ok (.getfield 103, 3) := by decide +kernel
theorem dX2_tasteLot_54 : decode mX2_tasteLot.2.2.1 54 = .ok (.iload_n 2, 1) := by decide +kernel
theorem dX2_tasteLot_55 : decode mX2_tasteLot.2.2.1 55 = .ok (.iadd, 1) := by decide +kernel
theorem dX2_tasteLot_56 : decode mX2_tasteLot.2.2.1 56 = .ok (.putfield 103, 3) := by decide +kernel
theorem dX2_tasteLot_59 : decode mX2_tasteLot.2.2.1 59 = .ok (.aload_n 3, 1) := by decide +kernel
theorem dX2_tasteLot_60 : decode mX2_tasteLot.2.2.1 60 = .ok (.dup, 1) := by decide +kernel
theorem dX2_tasteLot_61 : decode mX2_tasteLot.2.2.1 61 = .ok (.getfield 106, 3) := by decide +kernel
theorem dX2_tasteLot_64 : decode mX2_tasteLot.2.2.1 64 = .ok (.iconst 1, 1) := by decide +kernel
theorem dX2_tasteLot_65 : decode mX2_tasteLot.2.2.1 65 = .ok (.iadd, 1) := by decide +kernel
theorem dX2_tasteLot_66 : decode mX2_tasteLot.2.2.1 66 = .ok (.putfield 106, 3) := by decide +kernel
theorem dX2_tasteLot_69 : decode mX2_tasteLot.2.2.1 69 = .ok (.aload_n 3, 1) := by decide +kernel
theorem dX2_tasteLot_70 : decode mX2_tasteLot.2.2.1 70 = .ok (.invokevirtual 109, 3) := by decide +kernel
theorem dX2_tasteLot_73 : decode mX2_tasteLot.2.2.1 73 = .ok (.ireturn, 1) := by decide +kernel
theorem dX2_topLot_0 : decode mX2_topLot.2.2.1 0 = .ok (.aload_n 0, 1) := by decide +kernel
theorem dX2_topLot_1 : decode mX2_topLot.2.2.1 1 = .ok (.iload_n 1, 1) := by decide +kernel
theorem dX2_topLot_2 : decode mX2_topLot.2.2.1 2 = .ok (.invokevirtual 83, 3) := by decide +kernel
theorem dX2_topLot_5 : decode mX2_topLot.2.2.1 5 = .ok (.astore_n 2, 1) := by decide +kernel
theorem dX2_topLot_6 : decode mX2_topLot.2.2.1 6 = .ok (.aload_n 2, 1) := by decide +kernel
theorem dX2_topLot_7 : decode mX2_topLot.2.2.1 7 = .ok (.ifnonnull 6, 3) := by decide +kernel
theorem dX2_topLot_10 : decode mX2_topLot.2.2.1 10 = .ok (.ldc 81, 2) := by decide +kernel
theorem dX2_topLot_12 : decode mX2_topLot.2.2.1 12 = .ok (.ireturn, 1) := by decide +kernel
theorem dX2_topLot_13 : decode mX2_topLot.2.2.1 13 = .ok (.aload_n 2, 1) := by decide +kernel
theorem dX2_topLot_14 : decode mX2_topLot.2.2.1 14 = .ok (.getfield 87, 3) := by decide +kernel
theorem dX2_topLot_17 : decode mX2_topLot.2.2.1 17 = .ok (.invokevirtual 112, 3) := by decide +kernel
theorem dX2_topLot_20 : decode mX2_topLot.2.2.1 20 = .ok (.ifCond .ne 6, 3) := by decide +kernel
theorem dX2_topLot_23 : decode mX2_topLot.2.2.1 23 = .ok (.ldc 98, 2) := by decide +kernel
theorem dX2_topLot_25 : decode mX2_topLot.2.2.1 25 = .ok (.ireturn, 1) := by decide +kernel
theorem dX2_topLot_26 : decode mX2_topLot.2.2.1 26 = .ok (.aload_n 2, 1) := by decide +kernel
theorem dX2_topLot_27 : decode mX2_topLot.2.2.1 27 = .ok (.getfield 87, 3) := by decide +kernel
theorem dX2_topLot_30 : decode mX2_topLot.2.2.1 30 = .ok (.invokevirtual 116, 3) := by decide +kernel
theorem dX2_topLot_33 : decode mX2_topLot.2.2.1 33 = .ok (.aload_n 2, 1) := by decide +kernel
theorem dX2_topLot_34 : decode mX2_topLot.2.2.1 34 = .ok (.getfield 87, 3) := by decide +kernel
theorem dX2_topLot_37 : decode mX2_topLot.2.2.1 37 = .ok (.getfield 119, 3) := by decide +kernel
theorem dX2_topLot_40 : decode mX2_topLot.2.2.1 40 = .ok (.ireturn, 1) := by decide +kernel
theorem dX2_passMonths_0 : decode mX2_passMonths.2.2.1 0 = .ok (.iload_n 1, 1) := by decide +kernel
theorem dX2_passMonths_1 : decode mX2_passMonths.2.2.1 1 = .ok (.iconst 1, 1) := by decide +kernel
theorem dX2_passMonths_2 : decode mX2_passMonths.2.2.1 2 = .ok (.bipush 60, 2) := by decide +kernel
theorem dX2_passMonths_4 : decode mX2_passMonths.2.2.1 4 = .ok (.invokestatic 77, 3) := by decide +kernel
theorem dX2_passMonths_7 : decode mX2_passMonths.2.2.1 7 = .ok (.ifCond .ne 6, 3) := by decide +kernel
theorem dX2_passMonths_10 : decode mX2_passMonths.2.2.1 10 = .ok (.ldc 81, 2) := by decide +kernel
theorem dX2_passMonths_12 : decode mX2_passMonths.2.2.1 12 = .ok (.ireturn, 1) := by decide +kernel
theorem dX2_passMonths_13 : decode mX2_passMonths.2.2.1 13 = .ok (.aload_n 0, 1) := by decide +kernel
theorem dX2_passMonths_14 : decode mX2_passMonths.2.2.1 14 = .ok (.getfield 64, 3) := by decide +kernel
theorem dX2_passMonths_17 : decode mX2_passMonths.2.2.1 17 = .ok (.iload_n 1, 1) := by decide +kernel
theorem dX2_passMonths_18 : decode mX2_passMonths.2.2.1 18 = .ok (.iadd, 1) := by decide +kernel
theorem dX2_passMonths_19 : decode mX2_passMonths.2.2.1 19 = .ok (.sipush 999, 3) := by decide +kernel
theorem dX2_passMonths_22 : decode mX2_passMonths.2.2.1 22 = .ok (.if_icmp .le 6, 3) := by decide +kernel
theorem dX2_passMonths_25 : decode mX2_passMonths.2.2.1 25 = .ok (.ldc 82, 2) := by decide +kernel
theorem dX2_passMonths_27 : decode mX2_passMonths.2.2.1 27 = .ok (.ireturn, 1) := by decide +kernel
theorem dX2_passMonths_28 : decode mX2_passMonths.2.2.1 28 = .ok (.iconst 0, 1) := by decide +kernel
theorem dX2_passMonths_29 : decode mX2_passMonths.2.2.1 29 = .ok (.istore_n 2, 1) := by decide +kernel
theorem dX2_passMonths_30 : decode mX2_passMonths.2.2.1 30 = .ok (.iconst 0, 1) := by decide +kernel
theorem dX2_passMonths_31 : decode mX2_passMonths.2.2.1 31 = .ok (.istore_n 3, 1) := by decide +kernel
theorem dX2_passMonths_32 : decode mX2_passMonths.2.2.1 32 = .ok (.iload_n 3, 1) := by decide +kernel
theorem dX2_passMonths_33 : decode mX2_passMonths.2.2.1 33 = .ok (.aload_n 0, 1) := by decide +kernel
theorem dX2_passMonths_34 : decode mX2_passMonths.2.2.1 34 = .ok (.getfield 55, 3) := by decide +kernel
theorem dX2_passMonths_37 : decode mX2_passMonths.2.2.1 37 = .ok (.if_icmp .ge 37, 3) := by decide +kernel
theorem dX2_passMonths_40 : decode mX2_passMonths.2.2.1 40 = .ok (.aload_n 0, 1) := by decide +kernel
theorem dX2_passMonths_41 : decode mX2_passMonths.2.2.1 41 = .ok (.iload_n 3, 1) := by decide +kernel
theorem dX2_passMonths_42 : decode mX2_passMonths.2.2.1 42 = .ok (.invokevirtual 83, 3) := by decide +kernel
theorem dX2_passMonths_45 : decode mX2_passMonths.2.2.1 45 = .ok (.astore 4, 2) := by decide +kernel
theorem dX2_passMonths_47 : decode mX2_passMonths.2.2.1 47 = .ok (.iload_n 2, 1) := by decide +kernel
theorem dX2_passMonths_48 : decode mX2_passMonths.2.2.1 48 = .ok (.aload 4, 2) := by decide +kernel
theorem dX2_passMonths_50 : decode mX2_passMonths.2.2.1 50 = .ok (.ifnonnull 7, 3) := by decide +kernel
theorem dX2_passMonths_53 : decode mX2_passMonths.2.2.1 53 = .ok (.iconst 0, 1) := by decide +kernel
theorem dX2_passMonths_54 : decode mX2_passMonths.2.2.1 54 = .ok (.goto 12, 3) := by decide +kernel
theorem dX2_passMonths_57 : decode mX2_passMonths.2.2.1 57 = .ok (.aload 4, 2) := by decide +kernel
theorem dX2_passMonths_59 : decode mX2_passMonths.2.2.1 59 = .ok (.getfield 87, 3) := by decide +kernel
theorem dX2_passMonths_62 : decode mX2_passMonths.2.2.1 62 = .ok (.iload_n 1, 1) := by decide +kernel
theorem dX2_passMonths_63 : decode mX2_passMonths.2.2.1 63 = .ok (.invokevirtual 122, 3) := by decide +kernel
theorem dX2_passMonths_66 : decode mX2_passMonths.2.2.1 66 = .ok (.iadd, 1) := by decide +kernel
theorem dX2_passMonths_67 : decode mX2_passMonths.2.2.1 67 = .ok (.istore_n 2, 1) := by decide +kernel
theorem dX2_passMonths_68 : decode mX2_passMonths.2.2.1 68 = .ok (.iinc 3 1, 3) := by decide +kernel
theorem dX2_passMonths_71 : decode mX2_passMonths.2.2.1 71 = .ok (.goto (-39), 3) := by decide +kernel
theorem dX2_passMonths_74 : decode mX2_passMonths.2.2.1 74 = .ok (.aload_n 0, 1) := by decide +kernel
theorem dX2_passMonths_75 : decode mX2_passMonths.2.2.1 75 = .ok (.dup, 1) := by decide +kernel
theorem dX2_passMonths_76 : decode mX2_passMonths.2.2.1 76 = .ok (.getfield 64, 3) := by decide +kernel
theorem dX2_passMonths_79 : decode mX2_passMonths.2.2.1 79 = .ok (.iload_n 1, 1) := by decide +kernel
theorem dX2_passMonths_80 : decode mX2_passMonths.2.2.1 80 = .ok (.iadd, 1) := by decide +kernel
theorem dX2_passMonths_81 : decode mX2_passMonths.2.2.1 81 = .ok (.putfield 64, 3) := by decide +kernel
theorem dX2_passMonths_84 : decode mX2_passMonths.2.2.1 84 = .ok (.aload_n 0, 1) := by decide +kernel
theorem dX2_passMonths_85 : decode mX2_passMonths.2.2.1 85 = .ok (.dup, 1) := by decide +kernel
theorem dX2_passMonths_86 : decode mX2_passMonths.2.2.1 86 = .ok (.getfield 67, 3) := by decide +kernel
theorem dX2_passMonths_89 : decode mX2_passMonths.2.2.1 89 = .ok (.iload_n 2, 1) := by decide +kernel
theorem dX2_passMonths_90 : decode mX2_passMonths.2.2.1 90 = .ok (.iadd, 1) := by decide +kernel
theorem dX2_passMonths_91 : decode mX2_passMonths.2.2.1 91 = .ok (.putfield 67, 3) := by decide +kernel
theorem dX2_passMonths_94 : decode mX2_passMonths.2.2.1 94 = .ok (.iload_n 2, 1) := by decide +kernel
theorem dX2_passMonths_95 : decode mX2_passMonths.2.2.1 95 = .ok (.ireturn, 1) := by decide +kernel
theorem dX2_bottleLot_0 : decode mX2_bottleLot.2.2.1 0 = .ok (.aload_n 0, 1) := by decide +kernel
theorem dX2_bottleLot_1 : decode mX2_bottleLot.2.2.1 1 = .ok (.iload_n 1, 1) := by decide +kernel
theorem dX2_bottleLot_2 : decode mX2_bottleLot.2.2.1 2 = .ok (.invokevirtual 83, 3) := by decide +kernel
theorem dX2_bottleLot_5 : decode mX2_bottleLot.2.2.1 5 = .ok (.astore_n 2, 1) := by decide +kernel
theorem dX2_bottleLot_6 : decode mX2_bottleLot.2.2.1 6 = .ok (.aload_n 2, 1) := by decide +kernel
theorem dX2_bottleLot_7 : decode mX2_bottleLot.2.2.1 7 = .ok (.ifnonnull 6, 3) := by decide +kernel
theorem dX2_bottleLot_10 : decode mX2_bottleLot.2.2.1 10 = .ok (.ldc 81, 2) := by decide +kernel
theorem dX2_bottleLot_12 : decode mX2_bottleLot.2.2.1 12 = .ok (.ireturn, 1) := by decide +kernel
theorem dX2_bottleLot_13 : decode mX2_bottleLot.2.2.1 13 = .ok (.aload_n 2, 1) := by decide +kernel
theorem dX2_bottleLot_14 : decode mX2_bottleLot.2.2.1 14 = .ok (.getfield 126, 3) := by decide +kernel
theorem dX2_bottleLot_17 : decode mX2_bottleLot.2.2.1 17 = .ok (.ifCond .eq 6, 3) := by decide +kernel
theorem dX2_bottleLot_20 : decode mX2_bottleLot.2.2.1 20 = .ok (.ldc 98, 2) := by decide +kernel
theorem dX2_bottleLot_22 : decode mX2_bottleLot.2.2.1 22 = .ok (.ireturn, 1) := by decide +kernel
theorem dX2_bottleLot_23 : decode mX2_bottleLot.2.2.1 23 = .ok (.aload_n 2, 1) := by decide +kernel
theorem dX2_bottleLot_24 : decode mX2_bottleLot.2.2.1 24 = .ok (.invokevirtual 130, 3) := by decide +kernel
theorem dX2_bottleLot_27 : decode mX2_bottleLot.2.2.1 27 = .ok (.aload_n 2, 1) := by decide +kernel
theorem dX2_bottleLot_28 : decode mX2_bottleLot.2.2.1 28 = .ok (.invokevirtual 133, 3) := by decide +kernel
theorem dX2_bottleLot_31 : decode mX2_bottleLot.2.2.1 31 = .ok (.istore_n 3, 1) := by decide +kernel
theorem dX2_bottleLot_32 : decode mX2_bottleLot.2.2.1 32 = .ok (.iconst 0, 1) := by decide +kernel
theorem dX2_bottleLot_33 : decode mX2_bottleLot.2.2.1 33 = .ok (.istore 4, 2) := by decide +kernel
theorem dX2_bottleLot_35 : decode mX2_bottleLot.2.2.1 35 = .ok (.iconst 0, 1) := by decide +kernel
theorem dX2_bottleLot_36 : decode mX2_bottleLot.2.2.1 36 = .ok (.istore 5, 2) := by decide +kernel
theorem dX2_bottleLot_38 : decode mX2_bottleLot.2.2.1 38 = .ok (.iload 5, 2) := by decide +kernel
theorem dX2_bottleLot_40 : decode mX2_bottleLot.2.2.1 40 = .ok (.aload_n 0, 1) := by decide +kernel
theorem dX2_bottleLot_41 : decode mX2_bottleLot.2.2.1 41 = .ok (.getfield 58, 3) := by decide +kernel
theorem dX2_bottleLot_44 : decode mX2_bottleLot.2.2.1 44 = .ok (.if_icmp .ge 23, 3) := by decide +kernel
theorem dX2_bottleLot_47 : decode mX2_bottleLot.2.2.1 47 = .ok (.iload 4, 2) := by decide +kernel
theorem dX2_bottleLot_49 : decode mX2_bottleLot.2.2.1 49 = .ok (.aload_n 0, 1) := by decide +kernel
theorem dX2_bottleLot_50 : decode mX2_bottleLot.2.2.1 50 = .ok (.iload_n 1, 1) := by decide +kernel
theorem dX2_bottleLot_51 : decode mX2_bottleLot.2.2.1 51 = .ok (.aload_n 2, 1) := by decide +kernel
theorem dX2_bottleLot_52 : decode mX2_bottleLot.2.2.1 52 = .ok (.iload 5, 2) := by decide +kernel
theorem dX2_bottleLot_54 : decode mX2_bottleLot.2.2.1 54 = .ok (.iload_n 3, 1) := by decide +kernel
theorem dX2_bottleLot_55 : decode mX2_bottleLot.2.2.1 55 = .ok (.invokevirtual 136, 3) := by decide +kernel
theorem dX2_bottleLot_58 : decode mX2_bottleLot.2.2.1 58 = .ok (.iadd, 1) := by decide +kernel
theorem dX2_bottleLot_59 : decode mX2_bottleLot.2.2.1 59 = .ok (.istore 4, 2) := by decide +kernel
theorem dX2_bottleLot_61 : decode mX2_bottleLot.2.2.1 61 = .ok (.iinc 5 1, 3) := by decide +kernel
theorem dX2_bottleLot_64 : decode mX2_bottleLot.2.2.1 64 = .ok (.goto (-26), 3) := by decide +kernel
theorem dX2_bottleLot_67 : decode mX2_bottleLot.2.2.1 67 = .ok (.aload_n 0, 1) := by decide +kernel
theorem dX2_bottleLot_68 : decode mX2_bottleLot.2.2.1 68 = .ok (.dup, 1) := by decide +kernel
theorem dX2_bottleLot_69 : decode mX2_bottleLot.2.2.1 69 = .ok (.getfield 70, 3) := by decide +kernel
theorem dX2_bottleLot_72 : decode mX2_bottleLot.2.2.1 72 = .ok (.iload 4, 2) := by decide +kernel
theorem dX2_bottleLot_74 : decode mX2_bottleLot.2.2.1 74 = .ok (.iadd, 1) := by decide +kernel
theorem dX2_bottleLot_75 : decode mX2_bottleLot.2.2.1 75 = .ok (.putfield 70, 3) := by decide +kernel
theorem dX2_bottleLot_78 : decode mX2_bottleLot.2.2.1 78 = .ok (.iload 4, 2) := by decide +kernel
theorem dX2_bottleLot_80 : decode mX2_bottleLot.2.2.1 80 = .ok (.ireturn, 1) := by decide +kernel
theorem dX2_cutFutures_0 : decode mX2_cutFutures.2.2.1 0 = .ok (.aload_n 2, 1) := by decide +kernel
theorem dX2_cutFutures_1 : decode mX2_cutFutures.2.2.1 1 = .ok (.iload_n 3, 1) := by decide +kernel
theorem dX2_cutFutures_2 : decode mX2_cutFutures.2.2.1 2 = .ok (.aload_n 2, 1) := by decide +kernel
theorem dX2_cutFutures_3 : decode mX2_cutFutures.2.2.1 3 = .ok (.getfield 140, 3) := by decide +kernel
theorem dX2_cutFutures_6 : decode mX2_cutFutures.2.2.1 6 = .ok (.iload 4, 2) := by decide +kernel
theorem dX2_cutFutures_8 : decode mX2_cutFutures.2.2.1 8 = .ok (.invokevirtual 143, 3) := by decide +kernel
theorem dX2_cutFutures_11 : decode mX2_cutFutures.2.2.1 11 = .ok (.istore 5, 2) := by decide +kernel
theorem dX2_cutFutures_13 : decode mX2_cutFutures.2.2.1 13 = .ok (.iload 5, 2) := by decide +kernel
theorem dX2_cutFutures_15 : decode mX2_cutFutures.2.2.1 15 = .ok (.ifCond .le 36, 3) := by decide +kernel
theorem dX2_cutFutures_18 : decode mX2_cutFutures.2.2.1 18 = .ok (.aload_n 2, 1) := by decide +kernel
theorem dX2_cutFutures_19 : decode mX2_cutFutures.2.2.1 19 = .ok (.iload_n 3, 1) := by decide +kernel
theorem dX2_cutFutures_20 : decode mX2_cutFutures.2.2.1 20 = .ok (.iload 5, 2) := by decide +kernel
theorem dX2_cutFutures_22 : decode mX2_cutFutures.2.2.1 22 = .ok (.invokevirtual 147, 3) := by decide +kernel
theorem dX2_cutFutures_25 : decode mX2_cutFutures.2.2.1 25 = .ok (.istore 6, 2) := by decide +kernel
theorem dX2_cutFutures_27 : decode mX2_cutFutures.2.2.1 27 = .ok (.aload_n 0, 1) := by decide +kernel
theorem dX2_cutFutures_28 : decode mX2_cutFutures.2.2.1 28 = .ok (.iload_n 3, 1) := by decide +kernel
theorem dX2_cutFutures_29 : decode mX2_cutFutures.2.2.1 29 = .ok (.iload 6, 2) := by decide +kernel
theorem dX2_cutFutures_31 : decode mX2_cutFutures.2.2.1 31 = .ok (.ineg, 1) := by decide +kernel
theorem dX2_cutFutures_32 : decode mX2_cutFutures.2.2.1 32 = .ok (.invokevirtual 151, 3) := by decide +kernel
theorem dX2_cutFutures_35 : decode mX2_cutFutures.2.2.1 35 = .ok (.aload_n 0, 1) := by decide +kernel
theorem dX2_cutFutures_36 : decode mX2_cutFutures.2.2.1 36 = .ok (.getfield 24, 3) := by decide +kernel
theorem dX2_cutFutures_39 : decode mX2_cutFutures.2.2.1 39 = .ok (.iconst 2, 1) := by decide +kernel
theorem dX2_cutFutures_40 : decode mX2_cutFutures.2.2.1 40 = .ok (.iload_n 1, 1) := by decide +kernel
theorem dX2_cutFutures_41 : decode mX2_cutFutures.2.2.1 41 = .ok (.iload_n 3, 1) := by decide +kernel
theorem dX2_cutFutures_42 : decode mX2_cutFutures.2.2.1 42 = .ok (.iload 5, 2) := by decide +kernel
theorem dX2_cutFutures_44 : decode mX2_cutFutures.2.2.1 44 = .ok (.iload 6, 2) := by decide +kernel
theorem dX2_cutFutures_46 : decode mX2_cutFutures.2.2.1 46 = .ok (.ldc 154, 2) := by decide +kernel
theorem dX2_cutFutures_48 : decode mX2_cutFutures.2.2.1 48 = .ok (.invokevirtual 155, 3) := by decide +kernel
theorem dX2_cutFutures_51 : decode mX2_cutFutures.2.2.1 51 = .ok (.iload 5, 2) := by decide +kernel
theorem dX2_cutFutures_53 : decode mX2_cutFutures.2.2.1 53 = .ok (.ireturn, 1) := by decide +kernel
theorem dX2_addBuyer_0 : decode mX2_addBuyer.2.2.1 0 = .ok (.aload_n 0, 1) := by decide +kernel
theorem dX2_addBuyer_1 : decode mX2_addBuyer.2.2.1 1 = .ok (.getfield 58, 3) := by decide +kernel
theorem dX2_addBuyer_4 : decode mX2_addBuyer.2.2.1 4 = .ok (.bipush 6, 2) := by decide +kernel
theorem dX2_addBuyer_6 : decode mX2_addBuyer.2.2.1 6 = .ok (.if_icmp .lt 6, 3) := by decide +kernel
theorem dX2_addBuyer_9 : decode mX2_addBuyer.2.2.1 9 = .ok (.ldc 82, 2) := by decide +kernel
theorem dX2_addBuyer_11 : decode mX2_addBuyer.2.2.1 11 = .ok (.ireturn, 1) := by decide +kernel
theorem dX2_addBuyer_12 : decode mX2_addBuyer.2.2.1 12 = .ok (.aload_n 0, 1) := by decide +kernel
theorem dX2_addBuyer_13 : decode mX2_addBuyer.2.2.1 13 = .ok (.dup, 1) := by decide +kernel
theorem dX2_addBuyer_14 : decode mX2_addBuyer.2.2.1 14 = .ok (.getfield 58, 3) := by decide +kernel
theorem dX2_addBuyer_17 : decode mX2_addBuyer.2.2.1 17 = .ok (.iconst 1, 1) := by decide +kernel
theorem dX2_addBuyer_18 : decode mX2_addBuyer.2.2.1 18 = .ok (.iadd, 1) := by decide +kernel
theorem dX2_addBuyer_19 : decode mX2_addBuyer.2.2.1 19 = .ok (.putfield 58, 3) := by decide +kernel
theorem dX2_addBuyer_22 : decode mX2_addBuyer.2.2.1 22 = .ok (.aload_n 0, 1) := by decide +kernel
theorem dX2_addBuyer_23 : decode mX2_addBuyer.2.2.1 23 = .ok (.getfield 58, 3) := by decide +kernel
theorem dX2_addBuyer_26 : decode mX2_addBuyer.2.2.1 26 = .ok (.iconst 1, 1) := by decide +kernel
theorem dX2_addBuyer_27 : decode mX2_addBuyer.2.2.1 27 = .ok (.isub, 1) := by decide +kernel
theorem dX2_addBuyer_28 : decode mX2_addBuyer.2.2.1 28 = .ok (.ireturn, 1) := by decide +kernel
theorem dX2_sellFutures_0 : decode mX2_sellFutures.2.2.1 0 = .ok (.aload_n 0, 1) := by decide +kernel
theorem dX2_sellFutures_1 : decode mX2_sellFutures.2.2.1 1 = .ok (.iload_n 1, 1) := by decide +kernel
theorem dX2_sellFutures_2 : decode mX2_sellFutures.2.2.1 2 = .ok (.invokevirtual 83, 3) := by decide +kernel
theorem dX2_sellFutures_5 : decode mX2_sellFutures.2.2.1 5 = .ok (.astore 5, 2) := by decide +kernel
theorem dX2_sellFutures_7 : decode mX2_sellFutures.2.2.1 7 = .ok (.aload 5, 2) := by decide +kernel
theorem dX2_sellFutures_9 : decode mX2_sellFutures.2.2.1 9 = .ok (.ifnull 34, 3) := by decide +kernel
theorem dX2_sellFutures_12 : decode mX2_sellFutures.2.2.1 12 = .ok (.aload_n 0, 1) := by decide +kernel
theorem dX2_sellFutures_13 : decode mX2_sellFutures.2.2.1 13 = .ok (.iload_n 2, 1) := by decide +kernel
theorem dX2_sellFutures_14 : decode mX2_sellFutures.2.2.1 14 = .ok (.invokevirtual 73, 3) := by decide +kernel
theorem dX2_sellFutures_17 : decode mX2_sellFutures.2.2.1 17 = .ok (.ifCond .eq 26, 3) := by decide +kernel
theorem dX2_sellFutures_20 : decode mX2_sellFutures.2.2.1 20 = .ok (.iload_n 3, 1) := by decide +kernel
theorem dX2_sellFutures_21 : decode mX2_sellFutures.2.2.1 21 = .ok (.iconst 1, 1) := by decide +kernel
theorem dX2_sellFutures_22 : decode mX2_sellFutures.2.2.1 22 = .ok (.sipush 999, 3) := by decide +kernel
theorem dX2_sellFutures_25 : decode mX2_sellFutures.2.2.1 25 = .ok (.invokestatic 77, 3) := by decide +kernel
theorem dX2_sellFutures_28 : decode mX2_sellFutures.2.2.1 28 = .ok (.ifCond .eq 15, 3) := by decide +kernel
theorem dX2_sellFutures_31 : decode mX2_sellFutures.2.2.1 31 = .ok (.iload 4, 2) := by decide +kernel
theorem dX2_sellFutures_33 : decode mX2_sellFutures.2.2.1 33 = .ok (.iconst 0, 1) := by decide +kernel
theorem dX2_sellFutures_34 : decode mX2_sellFutures.2.2.1 34 = .ok (.sipush 999, 3) := by decide +kernel
theorem dX2_sellFutures_37 : decode mX2_sellFutures.2.2.1 37 = .ok (.invokestatic 77, 3) := by decide +kernel
theorem dX2_sellFutures_40 : decode mX2_sellFutures.2.2.1 40 = .ok (.ifCond .ne 6, 3) := by decide +kernel
theorem dX2_sellFutures_43 : decode mX2_sellFutures.2.2.1 43 = .ok (.ldc 81, 2) := by decide +kernel
theorem dX2_sellFutures_45 : decode mX2_sellFutures.2.2.1 45 = .ok (.ireturn, 1) := by decide +kernel
theorem dX2_sellFutures_46 : decode mX2_sellFutures.2.2.1 46 = .ok (.aload 5, 2) := by decide +kernel
theorem dX2_sellFutures_48 : decode mX2_sellFutures.2.2.1 48 = .ok (.getfield 126, 3) := by decide +kernel
theorem dX2_sellFutures_51 : decode mX2_sellFutures.2.2.1 51 = .ok (.ifCond .ne 19, 3) := by decide +kernel
theorem dX2_sellFutures_54 : decode mX2_sellFutures.2.2.1 54 = .ok (.aload 5, 2) := by decide +kernel
theorem dX2_sellFutures_56 : decode mX2_sellFutures.2.2.1 56 = .ok (.invokevirtual 133, 3) := by decide +kernel
theorem dX2_sellFutures_59 : decode mX2_sellFutures.2.2.1 59 = .ok (.iload_n 3, 1) := by decide +kernel
theorem dX2_sellFutures_60 : decode mX2_sellFutures.2.2.1 60 = .ok (.iadd, 1) := by decide +kernel
theorem dX2_sellFutures_61 : decode mX2_sellFutures.2.2.1 61 = .ok (.aload_n 0, 1) := by decide +kernel
theorem dX2_sellFutures_62 : decode mX2_sellFutures.2.2.1 62 = .ok (.aload 5, 2) := by decide +kernel
theorem dX2_sellFutures_64 : decode mX2_sellFutures.2.2.1 64 = .ok (.invokevirtual 159, 3) := by decide +kernel
theorem dX2_sellFutures_67 : decode mX2_sellFutures.2.2.1 67 = .ok (.if_icmp .le 6, 3) := by decide +kernel
theorem dX2_sellFutures_70 : decode mX2_sellFutures.2.2.1 70 = .ok (.ldc 98, 2) := by decide +kernel
theorem dX2_sellFutures_72 : decode mX2_sellFutures.2.2.1 72 = .ok (.ireturn, 1) := by decide +kernel
theorem dX2_sellFutures_73 : decode mX2_sellFutures.2.2.1 73 = .ok (.aload 5, 2) := by decide +kernel
theorem dX2_sellFutures_75 : decode mX2_sellFutures.2.2.1 75 = .ok (.iload_n 2, 1) := by decide +kernel
theorem dX2_sellFutures_76 : decode mX2_sellFutures.2.2.1 76 = .ok (.iload_n 3, 1) := by decide +kernel
theorem dX2_sellFutures_77 : decode mX2_sellFutures.2.2.1 77 = .ok (.iload_n 3, 1) := by decide +kernel
theorem dX2_sellFutures_78 : decode mX2_sellFutures.2.2.1 78 = .ok (.iload 4, 2) := by decide +kernel
theorem dX2_sellFutures_80 : decode mX2_sellFutures.2.2.1 80 = .ok (.imul, 1) := by decide +kernel
theorem dX2_sellFutures_81 : decode mX2_sellFutures.2.2.1 81 = .ok (.invokevirtual 163, 3) := by decide +kernel
theorem dX2_sellFutures_84 : decode mX2_sellFutures.2.2.1 84 = .ok (.aload_n 0, 1) := by decide +kernel
theorem dX2_sellFutures_85 : decode mX2_sellFutures.2.2.1 85 = .ok (.iload_n 2, 1) := by decide +kernel
theorem dX2_sellFutures_86 : decode mX2_sellFutures.2.2.1 86 = .ok (.iload_n 3, 1) := by decide +kernel
theorem dX2_sellFutures_87 : decode mX2_sellFutures.2.2.1 87 = .ok (.iload 4, 2) := by decide +kernel
theorem dX2_sellFutures_89 : decode mX2_sellFutures.2.2.1 89 = .ok (.imul, 1) := by decide +kernel
theorem dX2_sellFutures_90 : decode mX2_sellFutures.2.2.1 90 = .ok (.invokevirtual 151, 3) := by decide +kernel
theorem dX2_sellFutures_93 : decode mX2_sellFutures.2.2.1 93 = .ok (.aload_n 0, 1) := by decide +kernel
theorem dX2_sellFutures_94 : decode mX2_sellFutures.2.2.1 94 = .ok (.getfield 24, 3) := by decide +kernel
theorem dX2_sellFutures_97 : decode mX2_sellFutures.2.2.1 97 = .ok (.iconst 0, 1) := by decide +kernel
theorem dX2_sellFutures_98 : decode mX2_sellFutures.2.2.1 98 = .ok (.iload_n 1, 1) := by decide +kernel
theorem dX2_sellFutures_99 : decode mX2_sellFutures.2.2.1 99 = .ok (.iload_n 2, 1) := by decide +kernel
theorem dX2_sellFutures_100 : decode mX2_sellFutures.2.2.1 100 = .ok (.iload_n 3, 1) := by decide +kernel
theorem dX2_sellFutures_101 : decode mX2_sellFutures.2.2.1 101 = .ok (.iload 4, 2) := by decide +kernel
theorem dX2_sellFutures_103 : decode mX2_sellFutures.2.2.1 103 = .ok (.ldc 154, 2) := by decide +kernel
theorem dX2_sellFutures_105 : decode mX2_sellFutures.2.2.1 105 = .ok (.invokevirtual 155, 3) := by decide +kernel
theorem dX2_sellFutures_108 : decode mX2_sellFutures.2.2.1 108 = .ok (.aload 5, 2) := by decide +kernel
theorem dX2_sellFutures_110 : decode mX2_sellFutures.2.2.1 110 = .ok (.iload_n 2, 1) := by decide +kernel
theorem dX2_sellFutures_111 : decode mX2_sellFutures.2.2.1 111 = .ok (.invokevirtual 167, 3) := by decide +kernel
theorem dX2_sellFutures_114 : decode mX2_sellFutures.2.2.1 114 = .ok (.ireturn, 1) := by decide +kernel
theorem dX2_tradeFutures_0 : decode mX2_tradeFutures.2.2.1 0 = .ok (.aload_n 0, 1) := by decide +kernel
theorem dX2_tradeFutures_1 : decode mX2_tradeFutures.2.2.1 1 = .ok (.iload_n 1, 1) := by decide +kernel
theorem dX2_tradeFutures_2 : decode mX2_tradeFutures.2.2.1 2 = .ok (.invokevirtual 83, 3) := by decide +kernel
theorem dX2_tradeFutures_5 : decode mX2_tradeFutures.2.2.1 5 = .ok (.astore 6, 2) := by decide +kernel
theorem dX2_tradeFutures_7 : decode mX2_tradeFutures.2.2.1 7 = .ok (.aload 6, 2) := by decide +kernel
theorem dX2_tradeFutures_9 : decode mX2_tradeFutures.2.2.1 9 = .ok (.ifnull 24, 3) := by decide +kernel
theorem dX2_tradeFutures_12 : decode mX2_tradeFutures.2.2.1 12 = .ok (.aload_n 0, 1) := by decide +kernel
theorem dX2_tradeFutures_13 : decode mX2_tradeFutures.2.2.1 13 = .ok (.iload_n 2, 1) := by decide +kernel
theorem dX2_tradeFutures_14 : decode mX2_tradeFutures.2.2.1 14 = .ok (.invokevirtual 73, 3) := by decide +kernel
theorem dX2_tradeFutures_17 : decode mX2_tradeFutures.2.2.1 17 = .ok (.ifCond .eq 16, 3) := by decide +kernel
theorem dX2_tradeFutures_20 : decode mX2_tradeFutures.2.2.1 20 = .ok (.aload_n 0, 1) := by decide +kernel
theorem dX2_tradeFutures_21 : decode mX2_tradeFutures.2.2.1 21 = .ok (.iload_n 3, 1) := by decide +kernel
theorem dX2_tradeFutures_22 : decode mX2_tradeFutures.2.2.1 22 = .ok (.invokevirtual 73, 3) := by decide +kernel
theorem dX2_tradeFutures_25 : decode mX2_tradeFutures.2.2.1 25 = .ok (.ifCond .eq 8, 3) := by decide +kernel
theorem dX2_tradeFutures_28 : decode mX2_tradeFutures.2.2.1 28 = .ok (.iload_n 2, 1) := by decide +kernel
theorem dX2_tradeFutures_29 : decode mX2_tradeFutures.2.2.1 29 = .ok (.iload_n 3, 1) := by decide +kernel
theorem dX2_tradeFutures_30 : decode mX2_tradeFutures.2.2.1 30 = .ok (.if_icmp .ne 6, 3) := by decide +kernel
theorem dX2_tradeFutures_33 : decode mX2_tradeFutures.2.2.1 33 = .ok (.ldc 81, 2) := by decide +kernel
theorem dX2_tradeFutures_35 : decode mX2_tradeFutures.2.2.1 35 = .ok (.ireturn, 1) := by decide +kernel
theorem dX2_tradeFutures_36 : decode mX2_tradeFutures.2.2.1 36 = .ok (.iload 4, 2) := by decide +kernel
theorem dX2_tradeFutures_38 : decode mX2_tradeFutures.2.2.1 38 = .ok (.iconst 1, 1) := by decide +kernel
theorem dX2_tradeFutures_39 : decode mX2_tradeFutures.2.2.1 39 = .ok (.sipush 999, 3) := by decide +kernel
theorem dX2_tradeFutures_42 : decode mX2_tradeFutures.2.2.1 42 = .ok (.invokestatic 77, 3) := by decide +kernel
theorem dX2_tradeFutures_45 : decode mX2_tradeFutures.2.2.1 45 = .ok (.ifCond .eq 15, 3) := by decide +kernel
theorem dX2_tradeFutures_48 : decode mX2_tradeFutures.2.2.1 48 = .ok (.iload 5, 2) := by decide +kernel
theorem dX2_tradeFutures_50 : decode mX2_tradeFutures.2.2.1 50 = .ok (.iconst 0, 1) := by decide +kernel
theorem dX2_tradeFutures_51 : decode mX2_tradeFutures.2.2.1 51 = .ok (.sipush 999, 3) := by decide +kernel
theorem dX2_tradeFutures_54 : decode mX2_tradeFutures.2.2.1 54 = .ok (.invokestatic 77, 3) := by decide +kernel
theorem dX2_tradeFutures_57 : decode mX2_tradeFutures.2.2.1 57 = .ok (.ifCond .ne 6, 3) := by decide +kernel
theorem dX2_tradeFutures_60 : decode mX2_tradeFutures.2.2.1 60 = .ok (.ldc 81, 2) := by decide +kernel
theorem dX2_tradeFutures_62 : decode mX2_tradeFutures.2.2.1 62 = .ok (.ireturn, 1) := by decide +kernel
theorem dX2_tradeFutures_63 : decode mX2_tradeFutures.2.2.1 63 = .ok (.aload 6, 2) := by decide +kernel
theorem dX2_tradeFutures_65 : decode mX2_tradeFutures.2.2.1 65 = .ok (.iload_n 2, 1) := by decide +kernel
theorem dX2_tradeFutures_66 : decode mX2_tradeFutures.2.2.1 66 = .ok (.invokevirtual 167, 3) := by decide +kernel
theorem dX2_tradeFutures_69 : decode mX2_tradeFutures.2.2.1 69 = .ok (.iload 4, 2) := by decide +kernel
theorem dX2_tradeFutures_71 : decode mX2_tradeFutures.2.2.1 71 = .ok (.if_icmp .ge 6, 3) := by decide +kernel
theorem dX2_tradeFutures_74 : decode mX2_tradeFutures.2.2.1 74 = .ok (.ldc 98, 2) := by decide +kernel
theorem dX2_tradeFutures_76 : decode mX2_tradeFutures.2.2.1 76 = .ok (.ireturn, 1) := by decide +kernel
theorem dX2_tradeFutures_77 : decode mX2_tradeFutures.2.2.1 77 = .ok (.aload 6, 2) := by decide +kernel
theorem dX2_tradeFutures_79 : decode mX2_tradeFutures.2.2.1 79 = .ok (.iload_n 2, 1) := by decide +kernel
theorem dX2_tradeFutures_80 : decode mX2_tradeFutures.2.2.1 80 = .ok (.iload 4, 2) := by decide +kernel
theorem dX2_tradeFutures_82 : decode mX2_tradeFutures.2.2.1 82 = .ok (.invokevirtual 147, 3) := by decide +kernel
theorem dX2_tradeFutures_85 : decode mX2_tradeFutures.2.2.1 85 = .ok (.pop, 1) := by decide +kernel
theorem dX2_tradeFutures_86 : decode mX2_tradeFutures.2.2.1 86 = .ok (.aload 6, 2) := by decide +kernel
theorem dX2_tradeFutures_88 : decode mX2_tradeFutures.2.2.1 88 = .ok (.iload_n 3, 1) := by decide +kernel
theorem dX2_tradeFutures_89 : decode mX2_tradeFutures.2.2.1 89 = .ok (.iload 4, 2) := by decide +kernel
theorem dX2_tradeFutures_91 : decode mX2_tradeFutures.2.2.1 91 = .ok (.iload 4, 2) := by decide +kernel
theorem dX2_tradeFutures_93 : decode mX2_tradeFutures.2.2.1 93 = .ok (.iload 5, 2) := by decide +kernel
theorem dX2_tradeFutures_95 : decode mX2_tradeFutures.2.2.1 95 = .ok (.imul, 1) := by decide +kernel
theorem dX2_tradeFutures_96 : decode mX2_tradeFutures.2.2.1 96 = .ok (.invokevirtual 163, 3) := by decide +kernel
theorem dX2_tradeFutures_99 : decode mX2_tradeFutures.2.2.1 99 = .ok (.aload_n 0, 1) := by decide +kernel
theorem dX2_tradeFutures_100 : decode mX2_tradeFutures.2.2.1 100 = .ok (.getfield 17, 3) := by decide +kernel
theorem dX2_tradeFutures_103 : decode mX2_tradeFutures.2.2.1 103 = .ok (.iload_n 2, 1) := by decide +kernel
theorem dX2_tradeFutures_104 : decode mX2_tradeFutures.2.2.1 104 = .ok (.dup2, 1) := by decide +kernel
theorem dX2_tradeFutures_105 : decode mX2_tradeFutures.2.2.1 105 = .ok (.iaload, 1) := by decide +kernel
theorem dX2_tradeFutures_106 : decode mX2_tradeFutures.2.2.1 106 = .ok (.iload 4, 2) := by decide +kernel
theorem dX2_tradeFutures_108 : decode mX2_tradeFutures.2.2.1 108 = .ok (.iload 5, 2) := by decide +kernel
theorem dX2_tradeFutures_110 : decode mX2_tradeFutures.2.2.1 110 = .ok (.imul, 1) := by decide +kernel
theorem dX2_tradeFutures_111 : decode mX2_tradeFutures.2.2.1 111 = .ok (.iadd, 1) := by decide +kernel
theorem dX2_tradeFutures_112 : decode mX2_tradeFutures.2.2.1 112 = .ok (.iastore, 1) := by decide +kernel
theorem dX2_tradeFutures_113 : decode mX2_tradeFutures.2.2.1 113 = .ok (.aload_n 0, 1) := by decide +kernel
theorem dX2_tradeFutures_114 : decode mX2_tradeFutures.2.2.1 114 = .ok (.getfield 17, 3) := by decide +kernel
theorem dX2_tradeFutures_117 : decode mX2_tradeFutures.2.2.1 117 = .ok (.iload_n 3, 1) := by decide +kernel
theorem dX2_tradeFutures_118 : decode mX2_tradeFutures.2.2.1 118 = .ok (.dup2, 1) := by decide +kernel
theorem dX2_tradeFutures_119 : decode mX2_tradeFutures.2.2.1 119 = .ok (.iaload, 1) := by decide +kernel
theorem dX2_tradeFutures_120 : decode mX2_tradeFutures.2.2.1 120 = .ok (.iload 4, 2) := by decide +kernel
theorem dX2_tradeFutures_122 : decode mX2_tradeFutures.2.2.1 122 = .ok (.iload 5, 2) := by decide +kernel
theorem dX2_tradeFutures_124 : decode mX2_tradeFutures.2.2.1 124 = .ok (.imul, 1) := by decide +kernel
theorem dX2_tradeFutures_125 : decode mX2_tradeFutures.2.2.1 125 = .ok (.isub, 1) := by decide +kernel
theorem dX2_tradeFutures_126 : decode mX2_tradeFutures.2.2.1 126 = .ok (.iastore, 1) := by decide +kernel
theorem dX2_tradeFutures_127 : decode mX2_tradeFutures.2.2.1 127 = .ok (.aload_n 0, 1) := by decide +kernel
theorem dX2_tradeFutures_128 : decode mX2_tradeFutures.2.2.1 128 = .ok (.getfield 24, 3) := by decide +kernel
theorem dX2_tradeFutures_131 : decode mX2_tradeFutures.2.2.1 131 = .ok (.iconst 1, 1) := by decide +kernel
theorem dX2_tradeFutures_132 : decode mX2_tradeFutures.2.2.1 132 = .ok (.iload_n 1, 1) := by decide +kernel
theorem dX2_tradeFutures_133 : decode mX2_tradeFutures.2.2.1 133 = .ok (.iload_n 3, 1) := by decide +kernel
theorem dX2_tradeFutures_134 : decode mX2_tradeFutures.2.2.1 134 = .ok (.iload 4, 2) := by decide +kernel
theorem dX2_tradeFutures_136 : decode mX2_tradeFutures.2.2.1 136 = .ok (.iload 5, 2) := by decide +kernel
theorem dX2_tradeFutures_138 : decode mX2_tradeFutures.2.2.1 138 = .ok (.iload_n 2, 1) := by decide +kernel
theorem dX2_tradeFutures_139 : decode mX2_tradeFutures.2.2.1 139 = .ok (.invokevirtual 155, 3) := by decide +kernel
theorem dX2_tradeFutures_142 : decode mX2_tradeFutures.2.2.1 142 = .ok (.aload 6, 2) := by decide +kernel
theorem dX2_tradeFutures_144 : decode mX2_tradeFutures.2.2.1 144 = .ok (.iload_n 3, 1) := by decide +kernel
theorem dX2_tradeFutures_145 : decode mX2_tradeFutures.2.2.1 145 = .ok (.invokevirtual 167, 3) := by decide +kernel
theorem dX2_tradeFutures_148 : decode mX2_tradeFutures.2.2.1 148 = .ok (.ireturn, 1) := by decide +kernel
theorem dX2_redeemFutures_0 : decode mX2_redeemFutures.2.2.1 0 = .ok (.aload_n 0, 1) := by decide +kernel
theorem dX2_redeemFutures_1 : decode mX2_redeemFutures.2.2.1 1 = .ok (.iload_n 1, 1) := by decide +kernel
theorem dX2_redeemFutures_2 : decode mX2_redeemFutures.2.2.1 2 = .ok (.invokevirtual 83, 3) := by decide +kernel
theorem dX2_redeemFutures_5 : decode mX2_redeemFutures.2.2.1 5 = .ok (.astore 4, 2) := by decide +kernel
theorem dX2_redeemFutures_7 : decode mX2_redeemFutures.2.2.1 7 = .ok (.aload 4, 2) := by decide +kernel
theorem dX2_redeemFutures_9 : decode mX2_redeemFutures.2.2.1 9 = .ok (.ifnull 22, 3) := by decide +kernel
theorem dX2_redeemFutures_12 : decode mX2_redeemFutures.2.2.1 12 = .ok (.aload_n 0, 1) := by decide +kernel
theorem dX2_redeemFutures_13 : decode mX2_redeemFutures.2.2.1 13 = .ok (.iload_n 2, 1) := by decide +kernel
theorem dX2_redeemFutures_14 : decode mX2_redeemFutures.2.2.1 14 = .ok (.invokevirtual 73, 3) := by decide +kernel
theorem dX2_redeemFutures_17 : decode mX2_redeemFutures.2.2.1 17 = .ok (.ifCond .eq 14, 3) := by decide +kernel
theorem dX2_redeemFutures_20 : decode mX2_redeemFutures.2.2.1 20 = .ok (.iload_n 3, 1) := by decide +kernel
theorem dX2_redeemFutures_21 : decode mX2_redeemFutures.2.2.1 21 = .ok (.iconst 1, 1) := by decide +kernel
theorem dX2_redeemFutures_22 : decode mX2_redeemFutures.2.2.1 22 = .ok (.sipush 999, 3) := by decide +kernel
theorem dX2_redeemFutures_25 : decode mX2_redeemFutures.2.2.1 25 = .ok (.invokestatic 77, 3) := by decide +kernel
theorem dX2_redeemFutures_28 : decode mX2_redeemFutures.2.2.1 28 = .ok (.ifCond .ne 6, 3) := by decide +kernel
theorem dX2_redeemFutures_31 : decode mX2_redeemFutures.2.2.1 31 = .ok (.ldc 81, 2) := by decide +kernel
theorem dX2_redeemFutures_33 : decode mX2_redeemFutures.2.2.1 33 = .ok (.ireturn, 1) := by decide +kernel
theorem dX2_redeemFutures_34 : decode mX2_redeemFutures.2.2.1 34 = .ok (.aload 4, 2) := by decide +kernel
theorem dX2_redeemFutures_36 : decode mX2_redeemFutures.2.2.1 36 = .ok (.getfield 126, 3) := by decide +kernel
theorem dX2_redeemFutures_39 : decode mX2_redeemFutures.2.2.1 39 = .ok (.ifCond .eq 13, 3) := by decide +kernel
theorem dX2_redeemFutures_42 : decode mX2_redeemFutures.2.2.1 42 = .ok (.aload 4, 2) := by decide +kernel
theorem dX2_redeemFutures_44 : decode mX2_redeemFutures.2.2.1 44 = .ok (.iload_n 2, 1) := by decide +kernel
theorem dX2_redeemFutures_45 : decode mX2_redeemFutures.2.2.1 45 = .ok (.invokevirtual 167, 3) := by decide +kernel
theorem dX2_redeemFutures_48 : decode mX2_redeemFutures.2.2.1 48 = .ok (.iload_n 3, 1) := by decide +kernel
theorem dX2_redeemFutures_49 : decode mX2_redeemFutures.2.2.1 49 = .ok (.if_icmp .ge 6, 3) := by decide +kernel
theorem dX2_redeemFutures_52 : decode mX2_redeemFutures.2.2.1 52 = .ok (.ldc 98, 2) := by decide +kernel
theorem dX2_redeemFutures_54 : decode mX2_redeemFutures.2.2.1 54 = .ok (.ireturn, 1) := by decide +kernel
theorem dX2_redeemFutures_55 : decode mX2_redeemFutures.2.2.1 55 = .ok (.aload 4, 2) := by decide +kernel
theorem dX2_redeemFutures_57 : decode mX2_redeemFutures.2.2.1 57 = .ok (.iload_n 2, 1) := by decide +kernel
theorem dX2_redeemFutures_58 : decode mX2_redeemFutures.2.2.1 58 = .ok (.iload_n 3, 1) := by decide +kernel
theorem dX2_redeemFutures_59 : decode mX2_redeemFutures.2.2.1 59 = .ok (.invokevirtual 170, 3) := by decide +kernel
theorem dX2_redeemFutures_62 : decode mX2_redeemFutures.2.2.1 62 = .ok (.aload_n 0, 1) := by decide +kernel
theorem dX2_redeemFutures_63 : decode mX2_redeemFutures.2.2.1 63 = .ok (.getfield 24, 3) := by decide +kernel
theorem dX2_redeemFutures_66 : decode mX2_redeemFutures.2.2.1 66 = .ok (.iconst 3, 1) := by decide +kernel
theorem dX2_redeemFutures_67 : decode mX2_redeemFutures.2.2.1 67 = .ok (.iload_n 1, 1) := by decide +kernel
theorem dX2_redeemFutures_68 : decode mX2_redeemFutures.2.2.1 68 = .ok (.iload_n 2, 1) := by decide +kernel
theorem dX2_redeemFutures_69 : decode mX2_redeemFutures.2.2.1 69 = .ok (.iload_n 3, 1) := by decide +kernel
theorem dX2_redeemFutures_70 : decode mX2_redeemFutures.2.2.1 70 = .ok (.ldc 154, 2) := by decide +kernel
theorem dX2_redeemFutures_72 : decode mX2_redeemFutures.2.2.1 72 = .ok (.ldc 154, 2) := by decide +kernel
theorem dX2_redeemFutures_74 : decode mX2_redeemFutures.2.2.1 74 = .ok (.invokevirtual 155, 3) := by decide +kernel
theorem dX2_redeemFutures_77 : decode mX2_redeemFutures.2.2.1 77 = .ok (.aload 4, 2) := by decide +kernel
theorem dX2_redeemFutures_79 : decode mX2_redeemFutures.2.2.1 79 = .ok (.invokevirtual 173, 3) := by decide +kernel
theorem dX2_redeemFutures_82 : decode mX2_redeemFutures.2.2.1 82 = .ok (.ireturn, 1) := by decide +kernel
theorem dX2_changeSetting_0 : decode mX2_changeSetting.2.2.1 0 = .ok (.iload_n 1, 1) := by decide +kernel
theorem dX2_changeSetting_1 : decode mX2_changeSetting.2.2.1 1 = .ok (.ifCond .ne 25, 3) := by decide +kernel
theorem dX2_changeSetting_4 : decode mX2_changeSetting.2.2.1 4 = .ok (.iload_n 2, 1) := by decide +kernel
theorem dX2_changeSetting_5 : decode mX2_changeSetting.2.2.1 5 = .ok (.iconst 0, 1) := by decide +kernel
theorem dX2_changeSetting_6 : decode mX2_changeSetting.2.2.1 6 = .ok (.bipush 100, 2) := by decide +kernel
theorem dX2_changeSetting_8 : decode mX2_changeSetting.2.2.1 8 = .ok (.invokestatic 77, 3) := by decide +kernel
theorem dX2_changeSetting_11 : decode mX2_changeSetting.2.2.1 11 = .ok (.ifCond .eq 15, 3) := by decide +kernel
theorem dX2_changeSetting_14 : decode mX2_changeSetting.2.2.1 14 = .ok (.aload_n 0, 1) := by decide +kernel
theorem dX2_changeSetting_15 : decode mX2_changeSetting.2.2.1 15 = .ok (.getfield 35, 3) := by decide +kernel
theorem dX2_changeSetting_18 : decode mX2_changeSetting.2.2.1 18 = .ok (.istore_n 3, 1) := by decide +kernel
theorem dX2_changeSetting_19 : decode mX2_changeSetting.2.2.1 19 = .ok (.aload_n 0, 1) := by decide +kernel
theorem dX2_changeSetting_20 : decode mX2_changeSetting.2.2.1 20 = .ok (.iload_n 2, 1) := by decide +kernel
theorem dX2_changeSetting_21 : decode mX2_changeSetting.2.2.1 21 = .ok (.putfield 35, 3) := by decide +kernel
theorem dX2_changeSetting_24 : decode mX2_changeSetting.2.2.1 24 = .ok (.iload_n 3, 1) := by decide +kernel
theorem dX2_changeSetting_25 : decode mX2_changeSetting.2.2.1 25 = .ok (.ireturn, 1) := by decide +kernel
theorem dX2_changeSetting_26 : decode mX2_changeSetting.2.2.1 26 = .ok (.iload_n 1, 1) := by decide +kernel
theorem dX2_changeSetting_27 : decode mX2_changeSetting.2.2.1 27 = .ok (.iconst 1, 1) := by decide +kernel
theorem dX2_changeSetting_28 : decode mX2_changeSetting.2.2.1 28 = .ok (.if_icmp .ne 25, 3) := by decide +kernel
theorem dX2_changeSetting_31 : decode mX2_changeSetting.2.2.1 31 = .ok (.iload_n 2, 1) := by decide +kernel
theorem dX2_changeSetting_32 : decode mX2_changeSetting.2.2.1 32 = .ok (.iconst 0, 1) := by decide +kernel
theorem dX2_changeSetting_33 : decode mX2_changeSetting.2.2.1 33 = .ok (.bipush 36, 2) := by decide +kernel
theorem dX2_changeSetting_35 : decode mX2_changeSetting.2.2.1 35 = .ok (.invokestatic 77, 3) := by decide +kernel
theorem dX2_changeSetting_38 : decode mX2_changeSetting.2.2.1 38 = .ok (.ifCond .eq 15, 3) := by decide +kernel
theorem dX2_changeSetting_41 : decode mX2_changeSetting.2.2.1 41 = .ok (.aload_n 0, 1) := by decide +kernel
theorem dX2_changeSetting_42 : decode mX2_changeSetting.2.2.1 42 = .ok (.getfield 39, 3) := by decide +kernel
theorem dX2_changeSetting_45 : decode mX2_changeSetting.2.2.1 45 = .ok (.istore_n 3, 1) := by decide +kernel
theorem dX2_changeSetting_46 : decode mX2_changeSetting.2.2.1 46 = .ok (.aload_n 0, 1) := by decide +kernel
theorem dX2_changeSetting_47 : decode mX2_changeSetting.2.2.1 47 = .ok (.iload_n 2, 1) := by decide +kernel
theorem dX2_changeSetting_48 : decode mX2_changeSetting.2.2.1 48 = .ok (.putfield 39, 3) := by decide +kernel
theorem dX2_changeSetting_51 : decode mX2_changeSetting.2.2.1 51 = .ok (.iload_n 3, 1) := by decide +kernel
theorem dX2_changeSetting_52 : decode mX2_changeSetting.2.2.1 52 = .ok (.ireturn, 1) := by decide +kernel
theorem dX2_changeSetting_53 : decode mX2_changeSetting.2.2.1 53 = .ok (.ldc 81, 2) := by decide +kernel
theorem dX2_changeSetting_55 : decode mX2_changeSetting.2.2.1 55 = .ok (.ireturn, 1) := by decide +kernel
theorem dX2_lotValue_0 : decode mX2_lotValue.2.2.1 0 = .ok (.aload_n 0, 1) := by decide +kernel
theorem dX2_lotValue_1 : decode mX2_lotValue.2.2.1 1 = .ok (.iload_n 1, 1) := by decide +kernel
theorem dX2_lotValue_2 : decode mX2_lotValue.2.2.1 2 = .ok (.invokevirtual 83, 3) := by decide +kernel
theorem dX2_lotValue_5 : decode mX2_lotValue.2.2.1 5 = .ok (.astore_n 3, 1) := by decide +kernel
theorem dX2_lotValue_6 : decode mX2_lotValue.2.2.1 6 = .ok (.aload_n 3, 1) := by decide +kernel
theorem dX2_lotValue_7 : decode mX2_lotValue.2.2.1 7 = .ok (.ifnonnull 6, 3) := by decide +kernel
theorem dX2_lotValue_10 : decode mX2_lotValue.2.2.1 10 = .ok (.ldc 81, 2) := by decide +kernel
theorem dX2_lotValue_12 : decode mX2_lotValue.2.2.1 12 = .ok (.ireturn, 1) := by decide +kernel
theorem dX2_lotValue_13 : decode mX2_lotValue.2.2.1 13 = .ok (.iload_n 2, 1) := by decide +kernel
theorem dX2_lotValue_14 : decode mX2_lotValue.2.2.1 14 = .ok (.tableswitch 139 0 9 #[54, 62, 70, 81, 86, 106, 111, 116, 121, 134], 54) := by decide +kernel
theorem dX2_lotValue_68 : decode mX2_lotValue.2.2.1 68 = .ok (.aload_n 3, 1) := by decide +kernel
theorem dX2_lotValue_69 : decode mX2_lotValue.2.2.1 69 = .ok (.getfield 87, 3) := by decide +kernel
theorem dX2_lotValue_72 : decode mX2_lotValue.2.2.1 72 = .ok (.getfield 119, 3) := by decide +kernel
theorem dX2_lotValue_75 : decode mX2_lotValue.2.2.1 75 = .ok (.ireturn, 1) := by decide +kernel
theorem dX2_lotValue_76 : decode mX2_lotValue.2.2.1 76 = .ok (.aload_n 3, 1) := by decide +kernel
theorem dX2_lotValue_77 : decode mX2_lotValue.2.2.1 77 = .ok (.getfield 87, 3) := by decide +kernel
theorem dX2_lotValue_80 : decode mX2_lotValue.2.2.1 80 = .ok (.getfield 176, 3) := by decide +kernel
theorem dX2_lotValue_83 : decode mX2_lotValue.2.2.1 83 = .ok (.ireturn, 1) := by decide +kernel
theorem dX2_lotValue_84 : decode mX2_lotValue.2.2.1 84 = .ok (.aload_n 3, 1) := by decide +kernel
theorem dX2_lotValue_85 : decode mX2_lotValue.2.2.1 85 = .ok (.getfield 87, 3) := by decide +kernel
theorem dX2_lotValue_88 : decode mX2_lotValue.2.2.1 88 = .ok (.getfield 179, 3) := by decide +kernel
theorem dX2_lotValue_91 : decode mX2_lotValue.2.2.1 91 = .ok (.invokestatic 182, 3) := by decide +kernel
theorem dX2_lotValue_94 : decode mX2_lotValue.2.2.1 94 = .ok (.ireturn, 1) := by decide +kernel
theorem dX2_lotValue_95 : decode mX2_lotValue.2.2.1 95 = .ok (.aload_n 3, 1) := by decide +kernel
theorem dX2_lotValue_96 : decode mX2_lotValue.2.2.1 96 = .ok (.invokevirtual 173, 3) := by decide +kernel
theorem dX2_lotValue_99 : decode mX2_lotValue.2.2.1 99 = .ok (.ireturn, 1) := by decide +kernel
theorem dX2_lotValue_100 : decode mX2_lotValue.2.2.1 100 = .ok (.aload_n 3, 1) := by decide +kernel
theorem dX2_lotValue_101 : decode mX2_lotValue.2.2.1 101 = .ok (.getfield 126, 3) := by decide +kernel
theorem dX2_lotValue_104 : decode mX2_lotValue.2.2.1 104 = .ok (.ifCond .eq 10, 3) := by decide +kernel
theorem dX2_lotValue_107 : decode mX2_lotValue.2.2.1 107 = .ok (.aload_n 3, 1) := by decide +kernel
theorem dX2_lotValue_108 : decode mX2_lotValue.2.2.1 108 = .ok (.getfield 140, 3) := by decide +kernel
theorem dX2_lotValue_111 : decode mX2_lotValue.2.2.1 111 = .ok (.goto 8, 3) := by decide +kernel
theorem dX2_lotValue_114 : decode mX2_lotValue.2.2.1 114 = .ok (.aload_n 0, 1) := by decide +kernel
theorem dX2_lotValue_115 : decode mX2_lotValue.2.2.1 115 = .ok (.aload_n 3, 1) := by decide +kernel
theorem dX2_lotValue_116 : decode mX2_lotValue.2.2.1 116 = .ok (.invokevirtual 159, 3) := by decide +kernel
theorem dX2_lotValue_119 : decode mX2_lotValue.2.2.1 119 = .ok (.ireturn, 1) := by decide +kernel
theorem dX2_lotValue_120 : decode mX2_lotValue.2.2.1 120 = .ok (.aload_n 3, 1) := by decide +kernel
theorem dX2_lotValue_121 : decode mX2_lotValue.2.2.1 121 = .ok (.invokevirtual 133, 3) := by decide +kernel
theorem dX2_lotValue_124 : decode mX2_lotValue.2.2.1 124 = .ok (.ireturn, 1) := by decide +kernel
theorem dX2_lotValue_125 : decode mX2_lotValue.2.2.1 125 = .ok (.aload_n 3, 1) := by decide +kernel
theorem dX2_lotValue_126 : decode mX2_lotValue.2.2.1 126 = .ok (.invokevirtual 109, 3) := by decide +kernel
theorem dX2_lotValue_129 : decode mX2_lotValue.2.2.1 129 = .ok (.ireturn, 1) := by decide +kernel
theorem dX2_lotValue_130 : decode mX2_lotValue.2.2.1 130 = .ok (.aload_n 3, 1) := by decide +kernel
theorem dX2_lotValue_131 : decode mX2_lotValue.2.2.1 131 = .ok (.getfield 106, 3) := by decide +kernel
theorem dX2_lotValue_134 : decode mX2_lotValue.2.2.1 134 = .ok (.ireturn, 1) := by decide +kernel
theorem dX2_lotValue_135 : decode mX2_lotValue.2.2.1 135 = .ok (.aload_n 3, 1) := by decide +kernel
theorem dX2_lotValue_136 : decode mX2_lotValue.2.2.1 136 = .ok (.getfield 126, 3) := by decide +kernel
theorem dX2_lotValue_139 : decode mX2_lotValue.2.2.1 139 = .ok (.ifCond .eq 7, 3) := by decide +kernel
theorem dX2_lotValue_142 : decode mX2_lotValue.2.2.1 142 = .ok (.iconst 1, 1) := by decide +kernel
theorem dX2_lotValue_143 : decode mX2_lotValue.2.2.1 143 = .ok (.goto 4, 3) := by decide +kernel
theorem dX2_lotValue_146 : decode mX2_lotValue.2.2.1 146 = .ok (.iconst 0, 1) := by decide +kernel
theorem dX2_lotValue_147 : decode mX2_lotValue.2.2.1 147 = .ok (.ireturn, 1) := by decide +kernel
theorem dX2_lotValue_148 : decode mX2_lotValue.2.2.1 148 = .ok (.aload_n 3, 1) := by decide +kernel
theorem dX2_lotValue_149 : decode mX2_lotValue.2.2.1 149 = .ok (.invokevirtual 186, 3) := by decide +kernel
theorem dX2_lotValue_152 : decode mX2_lotValue.2.2.1 152 = .ok (.ireturn, 1) := by decide +kernel
theorem dX2_lotValue_153 : decode mX2_lotValue.2.2.1 153 = .ok (.ldc 81, 2) := by decide +kernel
theorem dX2_lotValue_155 : decode mX2_lotValue.2.2.1 155 = .ok (.ireturn, 1) := by decide +kernel
theorem dX2_barrelValue_0 : decode mX2_barrelValue.2.2.1 0 = .ok (.aload_n 0, 1) := by decide +kernel
theorem dX2_barrelValue_1 : decode mX2_barrelValue.2.2.1 1 = .ok (.iload_n 1, 1) := by decide +kernel
theorem dX2_barrelValue_2 : decode mX2_barrelValue.2.2.1 2 = .ok (.invokevirtual 83, 3) := by decide +kernel
theorem dX2_barrelValue_5 : decode mX2_barrelValue.2.2.1 5 = .ok (.astore_n 3, 1) := by decide +kernel
theorem dX2_barrelValue_6 : decode mX2_barrelValue.2.2.1 6 = .ok (.aload_n 3, 1) := by decide +kernel
theorem dX2_barrelValue_7 : decode mX2_barrelValue.2.2.1 7 = .ok (.ifnull 7, 3) := by decide +kernel
theorem dX2_barrelValue_10 : decode mX2_barrelValue.2.2.1 10 = .ok (.iload_n 2, 1) := by decide +kernel
theorem dX2_barrelValue_11 : decode mX2_barrelValue.2.2.1 11 = .ok (.ifCond .ge 6, 3) := by decide +kernel
theorem dX2_barrelValue_14 : decode mX2_barrelValue.2.2.1 14 = .ok (.ldc 81, 2) := by decide +kernel
theorem dX2_barrelValue_16 : decode mX2_barrelValue.2.2.1 16 = .ok (.ireturn, 1) := by decide +kernel
theorem dX2_barrelValue_17 : decode mX2_barrelValue.2.2.1 17 = .ok (.iload_n 2, 1) := by decide +kernel
theorem dX2_barrelValue_18 : decode mX2_barrelValue.2.2.1 18 = .ok (.aload_n 3, 1) := by decide +kernel
theorem dX2_barrelValue_19 : decode mX2_barrelValue.2.2.1 19 = .ok (.getfield 87, 3) := by decide +kernel
theorem dX2_barrelValue_22 : decode mX2_barrelValue.2.2.1 22 = .ok (.getfield 119, 3) := by decide +kernel
theorem dX2_barrelValue_25 : decode mX2_barrelValue.2.2.1 25 = .ok (.if_icmp .ge 15, 3) := by decide +kernel
theorem dX2_barrelValue_28 : decode mX2_barrelValue.2.2.1 28 = .ok (.iload_n 2, 1) := by decide +kernel
theorem dX2_barrelValue_29 : decode mX2_barrelValue.2.2.1 29 = .ok (.aload_n 3, 1) := by decide +kernel
theorem dX2_barrelValue_30 : decode mX2_barrelValue.2.2.1 30 = .ok (.getfield 87, 3) := by decide +kernel
theorem dX2_barrelValue_33 : decode mX2_barrelValue.2.2.1 33 = .ok (.getfield 179, 3) := by decide +kernel
theorem dX2_barrelValue_36 : decode mX2_barrelValue.2.2.1 36 = .ok (.arraylength, 1) := by decide +kernel
theorem dX2_barrelValue_37 : decode mX2_barrelValue.2.2.1 37 = .ok (.if_icmp .lt 6, 3) := by decide +kernel
theorem dX2_barrelValue_40 : decode mX2_barrelValue.2.2.1 40 = .ok (.ldc 154, 2) := by decide +kernel
theorem dX2_barrelValue_42 : decode mX2_barrelValue.2.2.1 42 = .ok (.ireturn, 1) := by decide +kernel
theorem dX2_barrelValue_43 : decode mX2_barrelValue.2.2.1 43 = .ok (.aload_n 3, 1) := by decide +kernel
theorem dX2_barrelValue_44 : decode mX2_barrelValue.2.2.1 44 = .ok (.getfield 87, 3) := by decide +kernel
theorem dX2_barrelValue_47 : decode mX2_barrelValue.2.2.1 47 = .ok (.getfield 179, 3) := by decide +kernel
theorem dX2_barrelValue_50 : decode mX2_barrelValue.2.2.1 50 = .ok (.iload_n 2, 1) := by decide +kernel
theorem dX2_barrelValue_51 : decode mX2_barrelValue.2.2.1 51 = .ok (.iaload, 1) := by decide +kernel
theorem dX2_barrelValue_52 : decode mX2_barrelValue.2.2.1 52 = .ok (.ireturn, 1) := by decide +kernel
theorem dX2_holdingValue_0 : decode mX2_holdingValue.2.2.1 0 = .ok (.aload_n 0, 1) := by decide +kernel
theorem dX2_holdingValue_1 : decode mX2_holdingValue.2.2.1 1 = .ok (.iload_n 2, 1) := by decide +kernel
theorem dX2_holdingValue_2 : decode mX2_holdingValue.2.2.1 2 = .ok (.invokevirtual 83, 3) := by decide +kernel
theorem dX2_holdingValue_5 : decode mX2_holdingValue.2.2.1 5 = .ok (.astore 4, 2) := by decide +kernel
theorem dX2_holdingValue_7 : decode mX2_holdingValue.2.2.1 7 = .ok (.aload 4, 2) := by decide +kernel
theorem dX2_holdingValue_9 : decode mX2_holdingValue.2.2.1 9 = .ok (.ifnull 11, 3) := by decide +kernel
theorem dX2_holdingValue_12 : decode mX2_holdingValue.2.2.1 12 = .ok (.aload_n 0, 1) := by decide +kernel
theorem dX2_holdingValue_13 : decode mX2_holdingValue.2.2.1 13 = .ok (.iload_n 1, 1) := by decide +kernel
theorem dX2_holdingValue_14 : decode mX2_holdingValue.2.2.1 14 = .ok (.invokevirtual 73, 3) := by decide +kernel
theorem dX2_holdingValue_17 : decode mX2_holdingValue.2.2.1 17 = .ok (.ifCond .ne 6, 3) := by decide +kernel
theorem dX2_holdingValue_20 : decode mX2_holdingValue.2.2.1 20 = .ok (.ldc 81, 2) := by decide +kernel
theorem dX2_holdingValue_22 : decode mX2_holdingValue.2.2.1 22 = .ok (.ireturn, 1) := by decide +kernel
theorem dX2_holdingValue_23 : decode mX2_holdingValue.2.2.1 23 = .ok (.iload_n 3, 1) := by decide +kernel
theorem dX2_holdingValue_24 : decode mX2_holdingValue.2.2.1 24 = .ok (.tableswitch 70 0 3 #[32, 39, 46, 53], 32) := by decide +kernel
theorem dX2_holdingValue_56 : decode mX2_holdingValue.2.2.1 56 = .ok (.aload 4, 2) := by decide +kernel
theorem dX2_holdingValue_58 : decode mX2_holdingValue.2.2.1 58 = .ok (.iload_n 1, 1) := by decide +kernel
theorem dX2_holdingValue_59 : decode mX2_holdingValue.2.2.1 59 = .ok (.invokevirtual 167, 3) := by decide +kernel
theorem dX2_holdingValue_62 : decode mX2_holdingValue.2.2.1 62 = .ok (.ireturn, 1) := by decide +kernel
theorem dX2_holdingValue_63 : decode mX2_holdingValue.2.2.1 63 = .ok (.aload 4, 2) := by decide +kernel
theorem dX2_holdingValue_65 : decode mX2_holdingValue.2.2.1 65 = .ok (.iload_n 1, 1) := by decide +kernel
theorem dX2_holdingValue_66 : decode mX2_holdingValue.2.2.1 66 = .ok (.invokevirtual 189, 3) := by decide +kernel
theorem dX2_holdingValue_69 : decode mX2_holdingValue.2.2.1 69 = .ok (.ireturn, 1) := by decide +kernel
theorem dX2_holdingValue_70 : decode mX2_holdingValue.2.2.1 70 = .ok (.aload 4, 2) := by decide +kernel
theorem dX2_holdingValue_72 : decode mX2_holdingValue.2.2.1 72 = .ok (.iload_n 1, 1) := by decide +kernel
theorem dX2_holdingValue_73 : decode mX2_holdingValue.2.2.1 73 = .ok (.invokevirtual 192, 3) := by decide +kernel
theorem dX2_holdingValue_76 : decode mX2_holdingValue.2.2.1 76 = .ok (.ireturn, 1) := by decide +kernel
theorem dX2_holdingValue_77 : decode mX2_holdingValue.2.2.1 77 = .ok (.aload_n 0, 1) := by decide +kernel
theorem dX2_holdingValue_78 : decode mX2_holdingValue.2.2.1 78 = .ok (.aload 4, 2) := by decide +kernel
theorem dX2_holdingValue_80 : decode mX2_holdingValue.2.2.1 80 = .ok (.iload_n 1, 1) := by decide +kernel
theorem dX2_holdingValue_81 : decode mX2_holdingValue.2.2.1 81 = .ok (.invokevirtual 189, 3) := by decide +kernel
theorem dX2_holdingValue_84 : decode mX2_holdingValue.2.2.1 84 = .ok (.aload 4, 2) := by decide +kernel
theorem dX2_holdingValue_86 : decode mX2_holdingValue.2.2.1 86 = .ok (.iload_n 1, 1) := by decide +kernel
theorem dX2_holdingValue_87 : decode mX2_holdingValue.2.2.1 87 = .ok (.invokevirtual 167, 3) := by decide +kernel
theorem dX2_holdingValue_90 : decode mX2_holdingValue.2.2.1 90 = .ok (.invokevirtual 195, 3) := by decide +kernel
theorem dX2_holdingValue_93 : decode mX2_holdingValue.2.2.1 93 = .ok (.ireturn, 1) := by decide +kernel
theorem dX2_holdingValue_94 : decode mX2_holdingValue.2.2.1 94 = .ok (.ldc 81, 2) := by decide +kernel
theorem dX2_holdingValue_96 : decode mX2_holdingValue.2.2.1 96 = .ok (.ireturn, 1) := by decide +kernel
theorem dX2_meanPaid_0 : decode mX2_meanPaid.2.2.1 0 = .ok (.iload_n 2, 1) := by decide +kernel
theorem dX2_meanPaid_1 : decode mX2_meanPaid.2.2.1 1 = .ok (.ifCond .gt 6, 3) := by decide +kernel
theorem dX2_meanPaid_4 : decode mX2_meanPaid.2.2.1 4 = .ok (.ldc 154, 2) := by decide +kernel
theorem dX2_meanPaid_6 : decode mX2_meanPaid.2.2.1 6 = .ok (.ireturn, 1) := by decide +kernel
theorem dX2_meanPaid_7 : decode mX2_meanPaid.2.2.1 7 = .ok (.iload_n 1, 1) := by decide +kernel
theorem dX2_meanPaid_8 : decode mX2_meanPaid.2.2.1 8 = .ok (.i2f, 1) := by decide +kernel
theorem dX2_meanPaid_9 : decode mX2_meanPaid.2.2.1 9 = .ok (.iload_n 2, 1) := by decide +kernel
theorem dX2_meanPaid_10 : decode mX2_meanPaid.2.2.1 10 = .ok (.i2f, 1) := by decide +kernel
theorem dX2_meanPaid_11 : decode mX2_meanPaid.2.2.1 11 = .ok (.fdiv, 1) := by decide +kernel
theorem dX2_meanPaid_12 : decode mX2_meanPaid.2.2.1 12 = .ok (.invokestatic 198, 3) := by decide +kernel
theorem dX2_meanPaid_15 : decode mX2_meanPaid.2.2.1 15 = .ok (.ireturn, 1) := by decide +kernel
theorem dX2_accountValue_0 : decode mX2_accountValue.2.2.1 0 = .ok (.iload_n 1, 1) := by decide +kernel
theorem dX2_accountValue_1 : decode mX2_accountValue.2.2.1 1 = .ok (.iconst (-1), 1) := by decide +kernel
theorem dX2_accountValue_2 : decode mX2_accountValue.2.2.1 2 = .ok (.if_icmp .ne 8, 3) := by decide +kernel
theorem dX2_accountValue_5 : decode mX2_accountValue.2.2.1 5 = .ok (.aload_n 0, 1) := by decide +kernel
theorem dX2_accountValue_6 : decode mX2_accountValue.2.2.1 6 = .ok (.getfield 61, 3) := by decide +kernel
theorem dX2_accountValue_9 : decode mX2_accountValue.2.2.1 9 = .ok (.ireturn, 1) := by decide +kernel
theorem dX2_accountValue_10 : decode mX2_accountValue.2.2.1 10 = .ok (.aload_n 0, 1) := by decide +kernel
theorem dX2_accountValue_11 : decode mX2_accountValue.2.2.1 11 = .ok (.iload_n 1, 1) := by decide +kernel
theorem dX2_accountValue_12 : decode mX2_accountValue.2.2.1 12 = .ok (.invokevirtual 73, 3) := by decide +kernel
theorem dX2_accountValue_15 : decode mX2_accountValue.2.2.1 15 = .ok (.ifCond .eq 12, 3) := by decide +kernel
theorem dX2_accountValue_18 : decode mX2_accountValue.2.2.1 18 = .ok (.aload_n 0, 1) := by decide +kernel
theorem dX2_accountValue_19 : decode mX2_accountValue.2.2.1 19 = .ok (.getfield 17, 3) := by decide +kernel
theorem dX2_accountValue_22 : decode mX2_accountValue.2.2.1 22 = .ok (.iload_n 1, 1) := by decide +kernel
theorem dX2_accountValue_23 : decode mX2_accountValue.2.2.1 23 = .ok (.iaload, 1) := by decide +kernel
theorem dX2_accountValue_24 : decode mX2_accountValue.2.2.1 24 = .ok (.goto 5, 3) := by decide +kernel
theorem dX2_accountValue_27 : decode mX2_accountValue.2.2.1 27 = .ok (.ldc 81, 2) := by decide +kernel
theorem dX2_accountValue_29 : decode mX2_accountValue.2.2.1 29 = .ok (.ireturn, 1) := by decide +kernel
theorem dX2_number_0 : decode mX2_number.2.2.1 0 = .ok (.iload_n 1, 1) := by decide +kernel
theorem dX2_number_1 : decode mX2_number.2.2.1 1 = .ok (.tableswitch 178 0 21 #[103, 108, 113, 118, 131, 137, 142, 148, 155, 160, 178, 178, 178, 178, 178, 178, 178, 178, 178, 178, 168, 173], 103) := by decide +kernel
theorem dX2_number_104 : decode mX2_number.2.2.1 104 = .ok (.aload_n 0, 1) := by decide +kernel
theorem dX2_number_105 : decode mX2_number.2.2.1 105 = .ok (.getfield 55, 3) := by decide +kernel
theorem dX2_number_108 : decode mX2_number.2.2.1 108 = .ok (.ireturn, 1) := by decide +kernel
theorem dX2_number_109 : decode mX2_number.2.2.1 109 = .ok (.aload_n 0, 1) := by decide +kernel
theorem dX2_number_110 : decode mX2_number.2.2.1 110 = .ok (.getfield 58, 3) := by decide +kernel
theorem dX2_number_113 : decode mX2_number.2.2.1 113 = .ok (.ireturn, 1) := by decide +kernel
theorem dX2_number_114 : decode mX2_number.2.2.1 114 = .ok (.aload_n 0, 1) := by decide +kernel
theorem dX2_number_115 : decode mX2_number.2.2.1 115 = .ok (.getfield 64, 3) := by decide +kernel
theorem dX2_number_118 : decode mX2_number.2.2.1 118 = .ok (.ireturn, 1) := by decide +kernel
theorem dX2_number_119 : decode mX2_number.2.2.1 119 = .ok (.aload_n 0, 1) := by decide +kernel
theorem dX2_number_120 : decode mX2_number.2.2.1 120 = .ok (.getfield 61, 3) := by decide +kernel
theorem dX2_number_123 : decode mX2_number.2.2.1 123 = .ok (.aload_n 0, 1) := by decide +kernel
theorem dX2_number_124 : decode mX2_number.2.2.1 124 = .ok (.getfield 17, 3) := by decide +kernel
theorem dX2_number_127 : decode mX2_number.2.2.1 127 = .ok (.invokestatic 182, 3) := by decide +kernel
theorem dX2_number_130 : decode mX2_number.2.2.1 130 = .ok (.iadd, 1) := by decide +kernel
theorem dX2_number_131 : decode mX2_number.2.2.1 131 = .ok (.ireturn, 1) := by decide +kernel
theorem dX2_number_132 : decode mX2_number.2.2.1 132 = .ok (.aload_n 0, 1) := by decide +kernel
theorem dX2_number_133 : decode mX2_number.2.2.1 133 = .ok (.iconst 2, 1) := by decide +kernel
theorem dX2_number_134 : decode mX2_number.2.2.1 134 = .ok (.invokevirtual 202, 3) := by decide +kernel
theorem dX2_number_137 : decode mX2_number.2.2.1 137 = .ok (.ireturn, 1) := by decide +kernel
theorem dX2_number_138 : decode mX2_number.2.2.1 138 = .ok (.aload_n 0, 1) := by decide +kernel
theorem dX2_number_139 : decode mX2_number.2.2.1 139 = .ok (.getfield 67, 3) := by decide +kernel
theorem dX2_number_142 : decode mX2_number.2.2.1 142 = .ok (.ireturn, 1) := by decide +kernel
theorem dX2_number_143 : decode mX2_number.2.2.1 143 = .ok (.aload_n 0, 1) := by decide +kernel
theorem dX2_number_144 : decode mX2_number.2.2.1 144 = .ok (.iconst 5, 1) := by decide +kernel
theorem dX2_number_145 : decode mX2_number.2.2.1 145 = .ok (.invokevirtual 202, 3) := by decide +kernel
theorem dX2_number_148 : decode mX2_number.2.2.1 148 = .ok (.ireturn, 1) := by decide +kernel
theorem dX2_number_149 : decode mX2_number.2.2.1 149 = .ok (.aload_n 0, 1) := by decide +kernel
theorem dX2_number_150 : decode mX2_number.2.2.1 150 = .ok (.bipush 9, 2) := by decide +kernel
theorem dX2_number_152 : decode mX2_number.2.2.1 152 = .ok (.invokevirtual 202, 3) := by decide +kernel
theorem dX2_number_155 : decode mX2_number.2.2.1 155 = .ok (.ireturn, 1) := by decide +kernel
theorem dX2_number_156 : decode mX2_number.2.2.1 156 = .ok (.aload_n 0, 1) := by decide +kernel
theorem dX2_number_157 : decode mX2_number.2.2.1 157 = .ok (.getfield 70, 3) := by decide +kernel
theorem dX2_number_160 : decode mX2_number.2.2.1 160 = .ok (.ireturn, 1) := by decide +kernel
theorem dX2_number_161 : decode mX2_number.2.2.1 161 = .ok (.aload_n 0, 1) := by decide +kernel
theorem dX2_number_162 : decode mX2_number.2.2.1 162 = .ok (.getfield 24, 3) := by decide +kernel
theorem dX2_number_165 : decode mX2_number.2.2.1 165 = .ok (.getfield 205, 3) := by decide +kernel
theorem dX2_number_168 : decode mX2_number.2.2.1 168 = .ok (.ireturn, 1) := by decide +kernel
theorem dX2_number_169 : decode mX2_number.2.2.1 169 = .ok (.aload_n 0, 1) := by decide +kernel
theorem dX2_number_170 : decode mX2_number.2.2.1 170 = .ok (.getfield 35, 3) := by decide +kernel
theorem dX2_number_173 : decode mX2_number.2.2.1 173 = .ok (.ireturn, 1) := by decide +kernel
theorem dX2_number_174 : decode mX2_number.2.2.1 174 = .ok (.aload_n 0, 1) := by decide +kernel
theorem dX2_number_175 : decode mX2_number.2.2.1 175 = .ok (.getfield 39, 3) := by decide +kernel
theorem dX2_number_178 : decode mX2_number.2.2.1 178 = .ok (.ireturn, 1) := by decide +kernel
theorem dX2_number_179 : decode mX2_number.2.2.1 179 = .ok (.ldc 81, 2) := by decide +kernel
theorem dX2_number_181 : decode mX2_number.2.2.1 181 = .ok (.ireturn, 1) := by decide +kernel
theorem dX2_totalOfLots_0 : decode mX2_totalOfLots.2.2.1 0 = .ok (.iconst 0, 1) := by decide +kernel
theorem dX2_totalOfLots_1 : decode mX2_totalOfLots.2.2.1 1 = .ok (.istore_n 2, 1) := by decide +kernel
theorem dX2_totalOfLots_2 : decode mX2_totalOfLots.2.2.1 2 = .ok (.iconst 0, 1) := by decide +kernel
theorem dX2_totalOfLots_3 : decode mX2_totalOfLots.2.2.1 3 = .ok (.istore_n 3, 1) := by decide +kernel
theorem dX2_totalOfLots_4 : decode mX2_totalOfLots.2.2.1 4 = .ok (.iload_n 3, 1) := by decide +kernel
theorem dX2_totalOfLots_5 : decode mX2_totalOfLots.2.2.1 5 = .ok (.aload_n 0, 1) := by decide +kernel
theorem dX2_totalOfLots_6 : decode mX2_totalOfLots.2.2.1 6 = .ok (.getfield 55, 3) := by decide +kernel
theorem dX2_totalOfLots_9 : decode mX2_totalOfLots.2.2.1 9 = .ok (.if_icmp .ge 18, 3) := by decide +kernel
theorem dX2_totalOfLots_12 : decode mX2_totalOfLots.2.2.1 12 = .ok (.iload_n 2, 1) := by decide +kernel
theorem dX2_totalOfLots_13 : decode mX2_totalOfLots.2.2.1 13 = .ok (.aload_n 0, 1) := by decide +kernel
theorem dX2_totalOfLots_14 : decode mX2_totalOfLots.2.2.1 14 = .ok (.iload_n 3, 1) := by decide +kernel
theorem dX2_totalOfLots_15 : decode mX2_totalOfLots.2.2.1 15 = .ok (.iload_n 1, 1) := by decide +kernel
theorem dX2_totalOfLots_16 : decode mX2_totalOfLots.2.2.1 16 = .ok (.invokevirtual 208, 3) := by decide +kernel
theorem dX2_totalOfLots_19 : decode mX2_totalOfLots.2.2.1 19 = .ok (.iadd, 1) := by decide +kernel
theorem dX2_totalOfLots_20 : decode mX2_totalOfLots.2.2.1 20 = .ok (.istore_n 2, 1) := by decide +kernel
theorem dX2_totalOfLots_21 : decode mX2_totalOfLots.2.2.1 21 = .ok (.iinc 3 1, 3) := by decide +kernel
theorem dX2_totalOfLots_24 : decode mX2_totalOfLots.2.2.1 24 = .ok (.goto (-20), 3) := by decide +kernel
theorem dX2_totalOfLots_27 : decode mX2_totalOfLots.2.2.1 27 = .ok (.iload_n 2, 1) := by decide +kernel
theorem dX2_totalOfLots_28 : decode mX2_totalOfLots.2.2.1 28 = .ok (.ireturn, 1) := by decide +kernel
theorem dX2_expectedCases_0 : decode mX2_expectedCases.2.2.1 0 = .ok (.aload_n 1, 1) := by decide +kernel
theorem dX2_expectedCases_1 : decode mX2_expectedCases.2.2.1 1 = .ok (.getfield 87, 3) := by decide +kernel
theorem dX2_expectedCases_4 : decode mX2_expectedCases.2.2.1 4 = .ok (.aload_n 0, 1) := by decide +kernel
theorem dX2_expectedCases_5 : decode mX2_expectedCases.2.2.1 5 = .ok (.getfield 39, 3) := by decide +kernel
theorem dX2_expectedCases_8 : decode mX2_expectedCases.2.2.1 8 = .ok (.invokevirtual 211, 3) := by decide +kernel
theorem dX2_expectedCases_11 : decode mX2_expectedCases.2.2.1 11 = .ok (.bipush 100, 2) := by decide +kernel
theorem dX2_expectedCases_13 : decode mX2_expectedCases.2.2.1 13 = .ok (.aload_n 0, 1) := by decide +kernel
theorem dX2_expectedCases_14 : decode mX2_expectedCases.2.2.1 14 = .ok (.getfield 35, 3) := by decide +kernel
theorem dX2_expectedCases_17 : decode mX2_expectedCases.2.2.1 17 = .ok (.isub, 1) := by decide +kernel
theorem dX2_expectedCases_18 : decode mX2_expectedCases.2.2.1 18 = .ok (.imul, 1) := by decide +kernel
theorem dX2_expectedCases_19 : decode mX2_expectedCases.2.2.1 19 = .ok (.bipush 100, 2) := by decide +kernel
theorem dX2_expectedCases_21 : decode mX2_expectedCases.2.2.1 21 = .ok (.idiv, 1) := by decide +kernel
theorem dX2_expectedCases_22 : decode mX2_expectedCases.2.2.1 22 = .ok (.ireturn, 1) := by decide +kernel
theorem dX2_forecastCases_0 : decode mX2_forecastCases.2.2.1 0 = .ok (.aload_n 0, 1) := by decide +kernel
theorem dX2_forecastCases_1 : decode mX2_forecastCases.2.2.1 1 = .ok (.iload_n 1, 1) := by decide +kernel
theorem dX2_forecastCases_2 : decode mX2_forecastCases.2.2.1 2 = .ok (.invokevirtual 83, 3) := by decide +kernel
theorem dX2_forecastCases_5 : decode mX2_forecastCases.2.2.1 5 = .ok (.astore_n 3, 1) := by decide +kernel
theorem dX2_forecastCases_6 : decode mX2_forecastCases.2.2.1 6 = .ok (.aload_n 3, 1) := by decide +kernel
theorem dX2_forecastCases_7 : decode mX2_forecastCases.2.2.1 7 = .ok (.ifnull 13, 3) := by decide +kernel
theorem dX2_forecastCases_10 : decode mX2_forecastCases.2.2.1 10 = .ok (.iload_n 2, 1) := by decide +kernel
theorem dX2_forecastCases_11 : decode mX2_forecastCases.2.2.1 11 = .ok (.iconst 0, 1) := by decide +kernel
theorem dX2_forecastCases_12 : decode mX2_forecastCases.2.2.1 12 = .ok (.bipush 120, 2) := by decide +kernel
theorem dX2_forecastCases_14 : decode mX2_forecastCases.2.2.1 14 = .ok (.invokestatic 77, 3) := by decide +kernel
theorem dX2_forecastCases_17 : decode mX2_forecastCases.2.2.1 17 = .ok (.ifCond .ne 6, 3) := by decide +kernel
theorem dX2_forecastCases_20 : decode mX2_forecastCases.2.2.1 20 = .ok (.ldc 81, 2) := by decide +kernel
theorem dX2_forecastCases_22 : decode mX2_forecastCases.2.2.1 22 = .ok (.ireturn, 1) := by decide +kernel
theorem dX2_forecastCases_23 : decode mX2_forecastCases.2.2.1 23 = .ok (.aload_n 3, 1) := by decide +kernel
theorem dX2_forecastCases_24 : decode mX2_forecastCases.2.2.1 24 = .ok (.getfield 126, 3) := by decide +kernel
theorem dX2_forecastCases_27 : decode mX2_forecastCases.2.2.1 27 = .ok (.ifCond .eq 8, 3) := by decide +kernel
theorem dX2_forecastCases_30 : decode mX2_forecastCases.2.2.1 30 = .ok (.ldc 98, 2) := by decide +kernel
theorem dX2_forecastCases_32 : decode mX2_forecastCases.2.2.1 32 = .ok (.goto 11, 3) := by decide +kernel
theorem dX2_forecastCases_35 : decode mX2_forecastCases.2.2.1 35 = .ok (.aload_n 3, 1) := by decide +kernel
theorem dX2_forecastCases_36 : decode mX2_forecastCases.2.2.1 36 = .ok (.getfield 87, 3) := by decide +kernel
theorem dX2_forecastCases_39 : decode mX2_forecastCases.2.2.1 39 = .ok (.iload_n 2, 1) := by decide +kernel
theorem dX2_forecastCases_40 : decode mX2_forecastCases.2.2.1 40 = .ok (.invokevirtual 211, 3) := by decide +kernel
theorem dX2_forecastCases_43 : decode mX2_forecastCases.2.2.1 43 = .ok (.ireturn, 1) := by decide +kernel
theorem dX2_sellableFutures_0 : decode mX2_sellableFutures.2.2.1 0 = .ok (.aload_n 0, 1) := by decide +kernel
theorem dX2_sellableFutures_1 : decode mX2_sellableFutures.2.2.1 1 = .ok (.iload_n 1, 1) := by decide +kernel
theorem dX2_sellableFutures_2 : decode mX2_sellableFutures.2.2.1 2 = .ok (.invokevirtual 83, 3) := by decide +kernel
theorem dX2_sellableFutures_5 : decode mX2_sellableFutures.2.2.1 5 = .ok (.astore_n 2, 1) := by decide +kernel
theorem dX2_sellableFutures_6 : decode mX2_sellableFutures.2.2.1 6 = .ok (.aload_n 2, 1) := by decide +kernel
theorem dX2_sellableFutures_7 : decode mX2_sellableFutures.2.2.1 7 = .ok (.ifnonnull 6, 3) := by decide +kernel
theorem dX2_sellableFutures_10 : decode mX2_sellableFutures.2.2.1 10 = .ok (.ldc 81, 2) := by decide +kernel
theorem dX2_sellableFutures_12 : decode mX2_sellableFutures.2.2.1 12 = .ok (.ireturn, 1) := by decide +kernel
theorem dX2_sellableFutures_13 : decode mX2_sellableFutures.2.2.1 13 = .ok (.aload_n 2, 1) := by decide +kernel
theorem dX2_sellableFutures_14 : decode mX2_sellableFutures.2.2.1 14 = .ok (.getfield 126, 3) := by decide +kernel
theorem dX2_sellableFutures_17 : decode mX2_sellableFutures.2.2.1 17 = .ok (.ifCond .eq 8, 3) := by decide +kernel
theorem dX2_sellableFutures_20 : decode mX2_sellableFutures.2.2.1 20 = .ok (.ldc 98, 2) := by decide +kernel
theorem dX2_sellableFutures_22 : decode mX2_sellableFutures.2.2.1 22 = .ok (.goto 17, 3) := by decide +kernel
theorem dX2_sellableFutures_25 : decode mX2_sellableFutures.2.2.1 25 = .ok (.iconst 0, 1) := by decide +kernel
theorem dX2_sellableFutures_26 : decode mX2_sellableFutures.2.2.1 26 = .ok (.aload_n 0, 1) := by decide +kernel
theorem dX2_sellableFutures_27 : decode mX2_sellableFutures.2.2.1 27 = .ok (.aload_n 2, 1) := by decide +kernel
theorem dX2_sellableFutures_28 : decode mX2_sellableFutures.2.2.1 28 = .ok (.invokevirtual 159, 3) := by decide +kernel
theorem dX2_sellableFutures_31 : decode mX2_sellableFutures.2.2.1 31 = .ok (.aload_n 2, 1) := by decide +kernel
theorem dX2_sellableFutures_32 : decode mX2_sellableFutures.2.2.1 32 = .ok (.invokevirtual 133, 3) := by decide +kernel
theorem dX2_sellableFutures_35 : decode mX2_sellableFutures.2.2.1 35 = .ok (.isub, 1) := by decide +kernel
theorem dX2_sellableFutures_36 : decode mX2_sellableFutures.2.2.1 36 = .ok (.invokestatic 214, 3) := by decide +kernel
theorem dX2_sellableFutures_39 : decode mX2_sellableFutures.2.2.1 39 = .ok (.ireturn, 1) := by decide +kernel
theorem dX2_monthsUntilTooFew_0 : decode mX2_monthsUntilTooFew.2.2.1 0 = .ok (.aload_n 0, 1) := by decide +kernel
theorem dX2_monthsUntilTooFew_1 : decode mX2_monthsUntilTooFew.2.2.1 1 = .ok (.iload_n 1, 1) := by decide +kernel
theorem dX2_monthsUntilTooFew_2 : decode mX2_monthsUntilTooFew.2.2.1 2 = .ok (.invokevirtual 83, 3) := by decide +kernel
theorem dX2_monthsUntilTooFew_5 : decode mX2_monthsUntilTooFew.2.2.1 5 = .ok (.astore_n 2, 1) := by decide +kernel
theorem dX2_monthsUntilTooFew_6 : decode mX2_monthsUntilTooFew.2.2.1 6 = .ok (.aload_n 2, 1) := by decide +kernel
theorem dX2_monthsUntilTooFew_7 : decode mX2_monthsUntilTooFew.2.2.1 7 = .ok (.ifnonnull 6, 3) := by decide +kernel
theorem dX2_monthsUntilTooFew_10 : decode mX2_monthsUntilTooFew.2.2.1 10 = .ok (.ldc 81, 2) := by decide +kernel
theorem dX2_monthsUntilTooFew_12 : decode mX2_monthsUntilTooFew.2.2.1 12 = .ok (.ireturn, 1) := by decide +kernel
theorem dX2_monthsUntilTooFew_13 : decode mX2_monthsUntilTooFew.2.2.1 13 = .ok (.aload_n 2, 1) := by decide +kernel
theorem dX2_monthsUntilTooFew_14 : decode mX2_monthsUntilTooFew.2.2.1 14 = .ok (.getfield 126, 3) := by decide +kernel
theorem dX2_monthsUntilTooFew_17 : decode mX2_monthsUntilTooFew.2.2.1 17 = .ok (.ifCond .eq 6, 3) := by decide +kernel
theorem dX2_monthsUntilTooFew_20 : decode mX2_monthsUntilTooFew.2.2.1 20 = .ok (.ldc 98, 2) := by decide +kernel
theorem dX2_monthsUntilTooFew_22 : decode mX2_monthsUntilTooFew.2.2.1 22 = .ok (.ireturn, 1) := by decide +kernel
theorem dX2_monthsUntilTooFew_23 : decode mX2_monthsUntilTooFew.2.2.1 23 = .ok (.aload_n 2, 1) := by decide +kernel
theorem dX2_monthsUntilTooFew_24 : decode mX2_monthsUntilTooFew.2.2.1 24 = .ok (.invokevirtual 133, 3) := by decide +kernel
theorem dX2_monthsUntilTooFew_27 : decode mX2_monthsUntilTooFew.2.2.1 27 = .ok (.istore_n 3, 1) := by decide +kernel
theorem dX2_monthsUntilTooFew_28 : decode mX2_monthsUntilTooFew.2.2.1 28 = .ok (.aload_n 0, 1) := by decide +kernel
theorem dX2_monthsUntilTooFew_29 : decode mX2_monthsUntilTooFew.2.2.1 29 = .ok (.getfield 31, 3) := by decide +kernel
theorem dX2_monthsUntilTooFew_32 : decode mX2_monthsUntilTooFew.2.2.1 32 = .ok (.aload_n 2, 1) := by decide +kernel
theorem dX2_monthsUntilTooFew_33 : decode mX2_monthsUntilTooFew.2.2.1 33 = .ok (.getfield 87, 3) := by decide +kernel
theorem dX2_monthsUntilTooFew_36 : decode mX2_monthsUntilTooFew.2.2.1 36 = .ok (.invokevirtual 219, 3) := by decide +kernel
theorem dX2_monthsUntilTooFew_39 : decode mX2_monthsUntilTooFew.2.2.1 39 = .ok (.iconst 0, 1) := by decide +kernel
theorem dX2_monthsUntilTooFew_40 : decode mX2_monthsUntilTooFew.2.2.1 40 = .ok (.istore 4, 2) := by decide +kernel
theorem dX2_monthsUntilTooFew_42 : decode mX2_monthsUntilTooFew.2.2.1 42 = .ok (.iload 4, 2) := by decide +kernel
theorem dX2_monthsUntilTooFew_44 : decode mX2_monthsUntilTooFew.2.2.1 44 = .ok (.bipush 120, 2) := by decide +kernel
theorem dX2_monthsUntilTooFew_46 : decode mX2_monthsUntilTooFew.2.2.1 46 = .ok (.if_icmp .gt 33, 3) := by decide +kernel
theorem dX2_monthsUntilTooFew_49 : decode mX2_monthsUntilTooFew.2.2.1 49 = .ok (.aload_n 0, 1) := by decide +kernel
theorem dX2_monthsUntilTooFew_50 : decode mX2_monthsUntilTooFew.2.2.1 50 = .ok (.getfield 31, 3) := by decide +kernel
theorem dX2_monthsUntilTooFew_53 : decode mX2_monthsUntilTooFew.2.2.1 53 = .ok (.iconst 0, 1) := by decide +kernel
theorem dX2_monthsUntilTooFew_54 : decode mX2_monthsUntilTooFew.2.2.1 54 = .ok (.invokevirtual 211, 3) := by decide +kernel
theorem dX2_monthsUntilTooFew_57 : decode mX2_monthsUntilTooFew.2.2.1 57 = .ok (.iload_n 3, 1) := by decide +kernel
theorem dX2_monthsUntilTooFew_58 : decode mX2_monthsUntilTooFew.2.2.1 58 = .ok (.if_icmp .ge 6, 3) := by decide +kernel
theorem dX2_monthsUntilTooFew_61 : decode mX2_monthsUntilTooFew.2.2.1 61 = .ok (.iload 4, 2) := by decide +kernel
theorem dX2_monthsUntilTooFew_63 : decode mX2_monthsUntilTooFew.2.2.1 63 = .ok (.ireturn, 1) := by decide +kernel
theorem dX2_monthsUntilTooFew_64 : decode mX2_monthsUntilTooFew.2.2.1 64 = .ok (.aload_n 0, 1) := by decide +kernel
theorem dX2_monthsUntilTooFew_65 : decode mX2_monthsUntilTooFew.2.2.1 65 = .ok (.getfield 31, 3) := by decide +kernel
theorem dX2_monthsUntilTooFew_68 : decode mX2_monthsUntilTooFew.2.2.1 68 = .ok (.iconst 1, 1) := by decide +kernel
theorem dX2_monthsUntilTooFew_69 : decode mX2_monthsUntilTooFew.2.2.1 69 = .ok (.invokevirtual 122, 3) := by decide +kernel
theorem dX2_monthsUntilTooFew_72 : decode mX2_monthsUntilTooFew.2.2.1 72 = .ok (.pop, 1) := by decide +kernel
theorem dX2_monthsUntilTooFew_73 : decode mX2_monthsUntilTooFew.2.2.1 73 = .ok (.iinc 4 1, 3) := by decide +kernel
theorem dX2_monthsUntilTooFew_76 : decode mX2_monthsUntilTooFew.2.2.1 76 = .ok (.goto (-34), 3) := by decide +kernel
theorem dX2_monthsUntilTooFew_79 : decode mX2_monthsUntilTooFew.2.2.1 79 = .ok (.ldc 154, 2) := by decide +kernel
theorem dX2_monthsUntilTooFew_81 : decode mX2_monthsUntilTooFew.2.2.1 81 = .ok (.ireturn, 1) := by decide +kernel
theorem dX2_gainByTopping_0 : decode mX2_gainByTopping.2.2.1 0 = .ok (.aload_n 0, 1) := by decide +kernel
theorem dX2_gainByTopping_1 : decode mX2_gainByTopping.2.2.1 1 = .ok (.iload_n 1, 1) := by decide +kernel
theorem dX2_gainByTopping_2 : decode mX2_gainByTopping.2.2.1 2 = .ok (.invokevirtual 83, 3) := by decide +kernel
theorem dX2_gainByTopping_5 : decode mX2_gainByTopping.2.2.1 5 = .ok (.astore_n 2, 1) := by decide +kernel
theorem dX2_gainByTopping_6 : decode mX2_gainByTopping.2.2.1 6 = .ok (.aload_n 2, 1) := by decide +kernel
theorem dX2_gainByTopping_7 : decode mX2_gainByTopping.2.2.1 7 = .ok (.ifnonnull 6, 3) := by decide +kernel
theorem dX2_gainByTopping_10 : decode mX2_gainByTopping.2.2.1 10 = .ok (.ldc 81, 2) := by decide +kernel
theorem dX2_gainByTopping_12 : decode mX2_gainByTopping.2.2.1 12 = .ok (.ireturn, 1) := by decide +kernel
theorem dX2_gainByTopping_13 : decode mX2_gainByTopping.2.2.1 13 = .ok (.aload_n 2, 1) := by decide +kernel
theorem dX2_gainByTopping_14 : decode mX2_gainByTopping.2.2.1 14 = .ok (.getfield 87, 3) := by decide +kernel
theorem dX2_gainByTopping_17 : decode mX2_gainByTopping.2.2.1 17 = .ok (.invokevirtual 112, 3) := by decide +kernel
theorem dX2_gainByTopping_20 : decode mX2_gainByTopping.2.2.1 20 = .ok (.ifCond .ne 6, 3) := by decide +kernel
theorem dX2_gainByTopping_23 : decode mX2_gainByTopping.2.2.1 23 = .ok (.ldc 98, 2) := by decide +kernel
theorem dX2_gainByTopping_25 : decode mX2_gainByTopping.2.2.1 25 = .ok (.ireturn, 1) := by decide +kernel
theorem dX2_gainByTopping_26 : decode mX2_gainByTopping.2.2.1 26 = .ok (.aload_n 0, 1) := by decide +kernel
theorem dX2_gainByTopping_27 : decode mX2_gainByTopping.2.2.1 27 = .ok (.getfield 31, 3) := by decide +kernel
theorem dX2_gainByTopping_30 : decode mX2_gainByTopping.2.2.1 30 = .ok (.aload_n 2, 1) := by decide +kernel
theorem dX2_gainByTopping_31 : decode mX2_gainByTopping.2.2.1 31 = .ok (.getfield 87, 3) := by decide +kernel
theorem dX2_gainByTopping_34 : decode mX2_gainByTopping.2.2.1 34 = .ok (.invokevirtual 219, 3) := by decide +kernel
theorem dX2_gainByTopping_37 : decode mX2_gainByTopping.2.2.1 37 = .ok (.aload_n 0, 1) := by decide +kernel
theorem dX2_gainByTopping_38 : decode mX2_gainByTopping.2.2.1 38 = .ok (.getfield 31, 3) := by decide +kernel
theorem dX2_gainByTopping_41 : decode mX2_gainByTopping.2.2.1 41 = .ok (.invokevirtual 116, 3) := by decide +kernel
theorem dX2_gainByTopping_44 : decode mX2_gainByTopping.2.2.1 44 = .ok (.aload_n 0, 1) := by decide +kernel
theorem dX2_gainByTopping_45 : decode mX2_gainByTopping.2.2.1 45 = .ok (.getfield 31, 3) := by decide +kernel
theorem dX2_gainByTopping_48 : decode mX2_gainByTopping.2.2.1 48 = .ok (.aload_n 0, 1) := by decide +kernel
theorem dX2_gainByTopping_49 : decode mX2_gainByTopping.2.2.1 49 = .ok (.getfield 39, 3) := by decide +kernel
theorem dX2_gainByTopping_52 : decode mX2_gainByTopping.2.2.1 52 = .ok (.invokevirtual 211, 3) := by decide +kernel
theorem dX2_gainByTopping_55 : decode mX2_gainByTopping.2.2.1 55 = .ok (.aload_n 2, 1) := by decide +kernel
theorem dX2_gainByTopping_56 : decode mX2_gainByTopping.2.2.1 56 = .ok (.getfield 87, 3) := by decide +kernel
theorem dX2_gainByTopping_59 : decode mX2_gainByTopping.2.2.1 59 = .ok (.aload_n 0, 1) := by decide +kernel
theorem dX2_gainByTopping_60 : decode mX2_gainByTopping.2.2.1 60 = .ok (.getfield 39, 3) := by decide +kernel
theorem dX2_gainByTopping_63 : decode mX2_gainByTopping.2.2.1 63 = .ok (.invokevirtual 211, 3) := by decide +kernel
theorem dX2_gainByTopping_66 : decode mX2_gainByTopping.2.2.1 66 = .ok (.isub, 1) := by decide +kernel
theorem dX2_gainByTopping_67 : decode mX2_gainByTopping.2.2.1 67 = .ok (.ireturn, 1) := by decide +kernel
theorem dX2_greatestLoss_0 : decode mX2_greatestLoss.2.2.1 0 = .ok (.aload_n 0, 1) := by decide +kernel
theorem dX2_greatestLoss_1 : decode mX2_greatestLoss.2.2.1 1 = .ok (.iload_n 1, 1) := by decide +kernel
theorem dX2_greatestLoss_2 : decode mX2_greatestLoss.2.2.1 2 = .ok (.invokevirtual 83, 3) := by decide +kernel
theorem dX2_greatestLoss_5 : decode mX2_greatestLoss.2.2.1 5 = .ok (.astore_n 3, 1) := by decide +kernel
theorem dX2_greatestLoss_6 : decode mX2_greatestLoss.2.2.1 6 = .ok (.aload_n 3, 1) := by decide +kernel
theorem dX2_greatestLoss_7 : decode mX2_greatestLoss.2.2.1 7 = .ok (.ifnull 12, 3) := by decide +kernel
theorem dX2_greatestLoss_10 : decode mX2_greatestLoss.2.2.1 10 = .ok (.iload_n 2, 1) := by decide +kernel
theorem dX2_greatestLoss_11 : decode mX2_greatestLoss.2.2.1 11 = .ok (.iconst 0, 1) := by decide +kernel
theorem dX2_greatestLoss_12 : decode mX2_greatestLoss.2.2.1 12 = .ok (.iconst 1, 1) := by decide +kernel
theorem dX2_greatestLoss_13 : decode mX2_greatestLoss.2.2.1 13 = .ok (.invokestatic 77, 3) := by decide +kernel
theorem dX2_greatestLoss_16 : decode mX2_greatestLoss.2.2.1 16 = .ok (.ifCond .ne 6, 3) := by decide +kernel
theorem dX2_greatestLoss_19 : decode mX2_greatestLoss.2.2.1 19 = .ok (.ldc 81, 2) := by decide +kernel
theorem dX2_greatestLoss_21 : decode mX2_greatestLoss.2.2.1 21 = .ok (.ireturn, 1) := by decide +kernel
theorem dX2_greatestLoss_22 : decode mX2_greatestLoss.2.2.1 22 = .ok (.aload_n 3, 1) := by decide +kernel
theorem dX2_greatestLoss_23 : decode mX2_greatestLoss.2.2.1 23 = .ok (.getfield 126, 3) := by decide +kernel
theorem dX2_greatestLoss_26 : decode mX2_greatestLoss.2.2.1 26 = .ok (.ifCond .eq 6, 3) := by decide +kernel
theorem dX2_greatestLoss_29 : decode mX2_greatestLoss.2.2.1 29 = .ok (.ldc 98, 2) := by decide +kernel
theorem dX2_greatestLoss_31 : decode mX2_greatestLoss.2.2.1 31 = .ok (.ireturn, 1) := by decide +kernel
theorem dX2_greatestLoss_32 : decode mX2_greatestLoss.2.2.1 32 = .ok (.iconst 0, 1) := by decide +kernel
theorem dX2_greatestLoss_33 : decode mX2_greatestLoss.2.2.1 33 = .ok (.istore 4, 2) := by decide +kernel
theorem dX2_greatestLoss_35 : decode mX2_greatestLoss.2.2.1 35 = .ok (.iconst 0, 1) := by decide +kernel
theorem dX2_greatestLoss_36 : decode mX2_greatestLoss.2.2.1 36 = .ok (.istore 5, 2) := by decide +kernel
theorem dX2_greatestLoss_38 : decode mX2_greatestLoss.2.2.1 38 = .ok (.iconst 0, 1) := by decide +kernel
theorem dX2_greatestLoss_39 : decode mX2_greatestLoss.2.2.1 39 = .ok (.istore 6, 2) := by decide +kernel
theorem dX2_greatestLoss_41 : decode mX2_greatestLoss.2.2.1 41 = .ok (.iload 6, 2) := by decide +kernel
theorem dX2_greatestLoss_43 : decode mX2_greatestLoss.2.2.1 43 = .ok (.aload_n 0, 1) := by decide +kernel
theorem dX2_greatestLoss_44 : decode mX2_greatestLoss.2.2.1 44 = .ok (.getfield 58, 3) := by decide +kernel
theorem dX2_greatestLoss_47 : decode mX2_greatestLoss.2.2.1 47 = .ok (.if_icmp .ge 40, 3) := by decide +kernel
theorem dX2_greatestLoss_50 : decode mX2_greatestLoss.2.2.1 50 = .ok (.aload_n 3, 1) := by decide +kernel
theorem dX2_greatestLoss_51 : decode mX2_greatestLoss.2.2.1 51 = .ok (.iload 6, 2) := by decide +kernel
theorem dX2_greatestLoss_53 : decode mX2_greatestLoss.2.2.1 53 = .ok (.aload_n 3, 1) := by decide +kernel
theorem dX2_greatestLoss_54 : decode mX2_greatestLoss.2.2.1 54 = .ok (.invokevirtual 173, 3) := by decide +kernel
theorem dX2_greatestLoss_57 : decode mX2_greatestLoss.2.2.1 57 = .ok (.aload_n 3, 1) := by decide +kernel
theorem dX2_greatestLoss_58 : decode mX2_greatestLoss.2.2.1 58 = .ok (.invokevirtual 133, 3) := by decide +kernel
theorem dX2_greatestLoss_61 : decode mX2_greatestLoss.2.2.1 61 = .ok (.invokevirtual 143, 3) := by decide +kernel
theorem dX2_greatestLoss_64 : decode mX2_greatestLoss.2.2.1 64 = .ok (.istore 7, 2) := by decide +kernel
theorem dX2_greatestLoss_66 : decode mX2_greatestLoss.2.2.1 66 = .ok (.iload 7, 2) := by decide +kernel
theorem dX2_greatestLoss_68 : decode mX2_greatestLoss.2.2.1 68 = .ok (.iload 4, 2) := by decide +kernel
theorem dX2_greatestLoss_70 : decode mX2_greatestLoss.2.2.1 70 = .ok (.if_icmp .le 11, 3) := by decide +kernel
theorem dX2_greatestLoss_73 : decode mX2_greatestLoss.2.2.1 73 = .ok (.iload 7, 2) := by decide +kernel
theorem dX2_greatestLoss_75 : decode mX2_greatestLoss.2.2.1 75 = .ok (.istore 4, 2) := by decide +kernel
theorem dX2_greatestLoss_77 : decode mX2_greatestLoss.2.2.1 77 = .ok (.iload 6, 2) := by decide +kernel
theorem dX2_greatestLoss_79 : decode mX2_greatestLoss.2.2.1 79 = .ok (.istore 5, 2) := by decide +kernel
theorem dX2_greatestLoss_81 : decode mX2_greatestLoss.2.2.1 81 = .ok (.iinc 6 1, 3) := by decide +kernel
theorem dX2_greatestLoss_84 : decode mX2_greatestLoss.2.2.1 84 = .ok (.goto (-43), 3) := by decide +kernel
theorem dX2_greatestLoss_87 : decode mX2_greatestLoss.2.2.1 87 = .ok (.iload 4, 2) := by decide +kernel
theorem dX2_greatestLoss_89 : decode mX2_greatestLoss.2.2.1 89 = .ok (.ifCond .ne 6, 3) := by decide +kernel
theorem dX2_greatestLoss_92 : decode mX2_greatestLoss.2.2.1 92 = .ok (.ldc 154, 2) := by decide +kernel
theorem dX2_greatestLoss_94 : decode mX2_greatestLoss.2.2.1 94 = .ok (.ireturn, 1) := by decide +kernel
theorem dX2_greatestLoss_95 : decode mX2_greatestLoss.2.2.1 95 = .ok (.iload_n 2, 1) := by decide +kernel
theorem dX2_greatestLoss_96 : decode mX2_greatestLoss.2.2.1 96 = .ok (.ifCond .ne 8, 3) := by decide +kernel
theorem dX2_greatestLoss_99 : decode mX2_greatestLoss.2.2.1 99 = .ok (.iload 5, 2) := by decide +kernel
theorem dX2_greatestLoss_101 : decode mX2_greatestLoss.2.2.1 101 = .ok (.goto 5, 3) := by decide +kernel
theorem dX2_greatestLoss_104 : decode mX2_greatestLoss.2.2.1 104 = .ok (.iload 4, 2) := by decide +kernel
theorem dX2_greatestLoss_106 : decode mX2_greatestLoss.2.2.1 106 = .ok (.ireturn, 1) := by decide +kernel
theorem dX3_init_0 : decode mX3_init.2.2.1 0 = .ok (.aload_n 0, 1) := by decide +kernel
theorem dX3_init_1 : decode mX3_init.2.2.1 1 = .ok (.invokespecial 3, 3) := by decide +kernel
theorem dX3_init_4 : decode mX3_init.2.2.1 4 = .ok (.aload_n 0, 1) := by decide +kernel
theorem dX3_init_5 : decode mX3_init.2.2.1 5 = .ok (.iconst 5, 1) := by decide +kernel
theorem dX3_init_6 : decode mX3_init.2.2.1 6 = .ok (.anewarray 9, 3) := by decide +kernel
theorem dX3_init_9 : decode mX3_init.2.2.1 9 = .ok (.putfield 11, 3) := by decide +kernel
theorem dX3_init_12 : decode mX3_init.2.2.1 12 = .ok (.iconst 0, 1) := by decide +kernel
theorem dX3_init_13 : decode mX3_init.2.2.1 13 = .ok (.istore_n 1, 1) := by decide +kernel
theorem dX3_init_14 : decode mX3_init.2.2.1 14 = .ok (.iload_n 1, 1) := by decide +kernel
theorem dX3_init_15 : decode mX3_init.2.2.1 15 = .ok (.aload_n 0, 1) := by decide +kernel
theorem dX3_init_16 : decode mX3_init.2.2.1 16 = .ok (.getfield 11, 3) := by decide +kernel
theorem dX3_init_19 : decode mX3_init.2.2.1 19 = .ok (.arraylength, 1) := by decide +kernel
theorem dX3_init_20 : decode mX3_init.2.2.1 20 = .ok (.if_icmp .ge 22, 3) := by decide +kernel
theorem dX3_init_23 : decode mX3_init.2.2.1 23 = .ok (.aload_n 0, 1) := by decide +kernel
theorem dX3_init_24 : decode mX3_init.2.2.1 24 = .ok (.getfield 11, 3) := by decide +kernel
theorem dX3_init_27 : decode mX3_init.2.2.1 27 = .ok (.iload_n 1, 1) := by decide +kernel
theorem dX3_init_28 : decode mX3_init.2.2.1 28 = .ok (.new 9, 3) := by decide +kernel
theorem dX3_init_31 : decode mX3_init.2.2.1 31 = .ok (.dup, 1) := by decide +kernel
theorem dX3_init_32 : decode mX3_init.2.2.1 32 = .ok (.invokespecial 17, 3) := by decide +kernel
theorem dX3_init_35 : decode mX3_init.2.2.1 35 = .ok (.aastore, 1) := by decide +kernel
theorem dX3_init_36 : decode mX3_init.2.2.1 36 = .ok (.iinc 1 1, 3) := by decide +kernel
theorem dX3_init_39 : decode mX3_init.2.2.1 39 = .ok (.goto (-25), 3) := by decide +kernel
theorem dX3_init_42 : decode mX3_init.2.2.1 42 = .ok (.return_, 1) := by decide +kernel
theorem dX3_draft_0 : decode mX3_draft.2.2.1 0 = .ok (.aload_n 0, 1) := by decide +kernel
theorem dX3_draft_1 : decode mX3_draft.2.2.1 1 = .ok (.invokevirtual 18, 3) := by decide +kernel
theorem dX3_draft_4 : decode mX3_draft.2.2.1 4 = .ok (.astore_n 2, 1) := by decide +kernel
theorem dX3_draft_5 : decode mX3_draft.2.2.1 5 = .ok (.aload_n 2, 1) := by decide +kernel
theorem dX3_draft_6 : decode mX3_draft.2.2.1 6 = .ok (.ifnull 8, 3) := by decide +kernel
theorem dX3_draft_9 : decode mX3_draft.2.2.1 9 = .ok (.aload_n 2, 1) := by decide +kernel
theorem dX3_draft_10 : decode mX3_draft.2.2.1 10 = .ok (.aload_n 1, 1) := by decide +kernel
theorem dX3_draft_11 : decode mX3_draft.2.2.1 11 = .ok (.invokevirtual 22, 3) := by decide +kernel
theorem dX3_draft_14 : decode mX3_draft.2.2.1 14 = .ok (.return_, 1) := by decide +kernel
theorem dX3_keepDraft_0 : decode mX3_keepDraft.2.2.1 0 = .ok (.aload_n 0, 1) := by decide +kernel
theorem dX3_keepDraft_1 : decode mX3_keepDraft.2.2.1 1 = .ok (.aload_n 0, 1) := by decide +kernel
theorem dX3_keepDraft_2 : decode mX3_keepDraft.2.2.1 2 = .ok (.getfield 26, 3) := by decide +kernel
theorem dX3_keepDraft_5 : decode mX3_keepDraft.2.2.1 5 = .ok (.iconst 4, 1) := by decide +kernel
theorem dX3_keepDraft_6 : decode mX3_keepDraft.2.2.1 6 = .ok (.if_icmp .lt 7, 3) := by decide +kernel
theorem dX3_keepDraft_9 : decode mX3_keepDraft.2.2.1 9 = .ok (.iconst 0, 1) := by decide +kernel
theorem dX3_keepDraft_10 : decode mX3_keepDraft.2.2.1 10 = .ok (.goto 9, 3) := by decide +kernel
theorem dX3_keepDraft_13 : decode mX3_keepDraft.2.2.1 13 = .ok (.aload_n 0, 1) := by decide +kernel
theorem dX3_keepDraft_14 : decode mX3_keepDraft.2.2.1 14 = .ok (.getfield 26, 3) := by decide +kernel
theorem dX3_keepDraft_17 : decode mX3_keepDraft.2.2.1 17 = .ok (.iconst 1, 1) := by decide +kernel
theorem dX3_keepDraft_18 : decode mX3_keepDraft.2.2.1 18 = .ok (.iadd, 1) := by decide +kernel
theorem dX3_keepDraft_19 : decode mX3_keepDraft.2.2.1 19 = .ok (.putfield 26, 3) := by decide +kernel
theorem dX3_keepDraft_22 : decode mX3_keepDraft.2.2.1 22 = .ok (.aload_n 0, 1) := by decide +kernel
theorem dX3_keepDraft_23 : decode mX3_keepDraft.2.2.1 23 = .ok (.aload_n 0, 1) := by decide +kernel
theorem dX3_keepDraft_24 : decode mX3_keepDraft.2.2.1 24 = .ok (.getfield 30, 3) := by decide +kernel
theorem dX3_keepDraft_27 : decode mX3_keepDraft.2.2.1 27 = .ok (.iconst 1, 1) := by decide +kernel
theorem dX3_keepDraft_28 : decode mX3_keepDraft.2.2.1 28 = .ok (.iadd, 1) := by decide +kernel
theorem dX3_keepDraft_29 : decode mX3_keepDraft.2.2.1 29 = .ok (.iconst 4, 1) := by decide +kernel
theorem dX3_keepDraft_30 : decode mX3_keepDraft.2.2.1 30 = .ok (.invokestatic 33, 3) := by decide +kernel
theorem dX3_keepDraft_33 : decode mX3_keepDraft.2.2.1 33 = .ok (.putfield 30, 3) := by decide +kernel
theorem dX3_keepDraft_36 : decode mX3_keepDraft.2.2.1 36 = .ok (.return_, 1) := by decide +kernel
theorem dX3_restore_0 : decode mX3_restore.2.2.1 0 = .ok (.aload_n 0, 1) := by decide +kernel
theorem dX3_restore_1 : decode mX3_restore.2.2.1 1 = .ok (.getfield 30, 3) := by decide +kernel
theorem dX3_restore_4 : decode mX3_restore.2.2.1 4 = .ok (.ifCond .gt 6, 3) := by decide +kernel
theorem dX3_restore_7 : decode mX3_restore.2.2.1 7 = .ok (.ldc 39, 2) := by decide +kernel
theorem dX3_restore_9 : decode mX3_restore.2.2.1 9 = .ok (.ireturn, 1) := by decide +kernel
theorem dX3_restore_10 : decode mX3_restore.2.2.1 10 = .ok (.aload_n 0, 1) := by decide +kernel
theorem dX3_restore_11 : decode mX3_restore.2.2.1 11 = .ok (.aload_n 0, 1) := by decide +kernel
theorem dX3_restore_12 : decode mX3_restore.2.2.1 12 = .ok (.getfield 26, 3) := by decide +kernel
theorem dX3_restore_15 : decode mX3_restore.2.2.1 15 = .ok (.ifCond .gt 7, 3) := by decide +kernel
theorem dX3_restore_18 : decode mX3_restore.2.2.1 18 = .ok (.iconst 4, 1) := by decide +kernel
theorem dX3_restore_19 : decode mX3_restore.2.2.1 19 = .ok (.goto 9, 3) := by decide +kernel
theorem dX3_restore_22 : decode mX3_restore.2.2.1 22 = .ok (.aload_n 0, 1) := by decide +kernel
theorem dX3_restore_23 : decode mX3_restore.2.2.1 23 = .ok (.getfield 26, 3) := by decide +kernel
theorem dX3_restore_26 : decode mX3_restore.2.2.1 26 = .ok (.iconst 1, 1) := by decide +kernel
theorem dX3_restore_27 : decode mX3_restore.2.2.1 27 = .ok (.isub, 1) := by decide +kernel
theorem dX3_restore_28 : decode mX3_restore.2.2.1 28 = .ok (.putfield 26, 3) := by decide +kernel
theorem dX3_restore_31 : decode mX3_restore.2.2.1 31 = .ok (.aload_n 0, 1) := by decide +kernel
theorem dX3_restore_32 : decode mX3_restore.2.2.1 32 = .ok (.dup, 1) := by decide +kernel
theorem dX3_restore_33 : decode mX3_restore.2.2.1 33 = .ok (.getfield 30, 3) := by decide +kernel
theorem dX3_restore_36 : decode mX3_restore.2.2.1 36 = .ok (.iconst 1, 1) := by decide +kernel
theorem dX3_restore_37 : decode mX3_restore.2.2.1 37 = .ok (.isub, 1) := by decide +kernel
theorem dX3_restore_38 : decode mX3_restore.2.2.1 38 = .ok (.putfield 30, 3) := by decide +kernel
theorem dX3_restore_41 : decode mX3_restore.2.2.1 41 = .ok (.aload_n 0, 1) := by decide +kernel
theorem dX3_restore_42 : decode mX3_restore.2.2.1 42 = .ok (.invokevirtual 18, 3) := by decide +kernel
theorem dX3_restore_45 : decode mX3_restore.2.2.1 45 = .ok (.astore_n 2, 1) := by decide +kernel
theorem dX3_restore_46 : decode mX3_restore.2.2.1 46 = .ok (.aload_n 2, 1) := by decide +kernel
theorem dX3_restore_47 : decode mX3_restore.2.2.1 47 = .ok (.ifnull 8, 3) := by decide +kernel
theorem dX3_restore_50 : decode mX3_restore.2.2.1 50 = .ok (.aload_n 1, 1) := by decide +kernel
theorem dX3_restore_51 : decode mX3_restore.2.2.1 51 = .ok (.aload_n 2, 1) := by decide +kernel
theorem dX3_restore_52 : decode mX3_restore.2.2.1 52 = .ok (.invokevirtual 22, 3) := by decide +kernel
theorem dX3_restore_55 : decode mX3_restore.2.2.1 55 = .ok (.aload_n 0, 1) := by decide +kernel
theorem dX3_restore_56 : decode mX3_restore.2.2.1 56 = .ok (.getfield 30, 3) := by decide +kernel
theorem dX3_restore_59 : decode mX3_restore.2.2.1 59 = .ok (.ireturn, 1) := by decide +kernel
theorem dX3_nextRow_0 : decode mX3_nextRow.2.2.1 0 = .ok (.aload_n 0, 1) := by decide +kernel
theorem dX3_nextRow_1 : decode mX3_nextRow.2.2.1 1 = .ok (.getfield 26, 3) := by decide +kernel
theorem dX3_nextRow_4 : decode mX3_nextRow.2.2.1 4 = .ok (.ifCond .lt 27, 3) := by decide +kernel
theorem dX3_nextRow_7 : decode mX3_nextRow.2.2.1 7 = .ok (.aload_n 0, 1) := by decide +kernel
theorem dX3_nextRow_8 : decode mX3_nextRow.2.2.1 8 = .ok (.getfield 26, 3) := by decide +kernel
theorem dX3_nextRow_11 : decode mX3_nextRow.2.2.1 11 = .ok (.aload_n 0, 1) := by decide +kernel
theorem dX3_nextRow_12 : decode mX3_nextRow.2.2.1 12 = .ok (.getfield 11, 3) := by decide +kernel
theorem dX3_nextRow_15 : decode mX3_nextRow.2.2.1 15 = .ok (.arraylength, 1) := by decide +kernel
theorem dX3_nextRow_16 : decode mX3_nextRow.2.2.1 16 = .ok (.if_icmp .ge 15, 3) := by decide +kernel
theorem dX3_nextRow_19 : decode mX3_nextRow.2.2.1 19 = .ok (.aload_n 0, 1) := by decide +kernel
theorem dX3_nextRow_20 : decode mX3_nextRow.2.2.1 20 = .ok (.getfield 11, 3) := by decide +kernel
theorem dX3_nextRow_23 : decode mX3_nextRow.2.2.1 23 = .ok (.aload_n 0, 1) := by decide +kernel
theorem dX3_nextRow_24 : decode mX3_nextRow.2.2.1 24 = .ok (.getfield 26, 3) := by decide +kernel
theorem dX3_nextRow_27 : decode mX3_nextRow.2.2.1 27 = .ok (.aaload, 1) := by decide +kernel
theorem dX3_nextRow_28 : decode mX3_nextRow.2.2.1 28 = .ok (.goto 4, 3) := by decide +kernel
theorem dX3_nextRow_31 : decode mX3_nextRow.2.2.1 31 = .ok (.aconst_null, 1) := by decide +kernel
theorem dX3_nextRow_32 : decode mX3_nextRow.2.2.1 32 = .ok (.areturn, 1) := by decide +kernel
theorem dX4_init_0 : decode mX4_init.2.2.1 0 = .ok (.aload_n 0, 1) := by decide +kernel
theorem dX4_init_1 : decode mX4_init.2.2.1 1 = .ok (.invokespecial 3, 3) := by decide +kernel
theorem dX4_init_4 : decode mX4_init.2.2.1 4 = .ok (.aload_n 0, 1) := by decide +kernel
theorem dX4_init_5 : decode mX4_init.2.2.1 5 = .ok (.new 9, 3) := by decide +kernel
theorem dX4_init_8 : decode mX4_init.2.2.1 8 = .ok (.dup, 1) := by decide +kernel
theorem dX4_init_9 : decode mX4_init.2.2.1 9 = .ok (.invokespecial 11, 3) := by decide +kernel
theorem dX4_init_12 : decode mX4_init.2.2.1 12 = .ok (.putfield 12, 3) := by decide +kernel
theorem dX4_init_15 : decode mX4_init.2.2.1 15 = .ok (.aload_n 0, 1) := by decide +kernel
theorem dX4_init_16 : decode mX4_init.2.2.1 16 = .ok (.bipush 6, 2) := by decide +kernel
theorem dX4_init_18 : decode mX4_init.2.2.1 18 = .ok (.newarray .int, 2) := by decide +kernel
theorem dX4_init_20 : decode mX4_init.2.2.1 20 = .ok (.putfield 18, 3) := by decide +kernel
theorem dX4_init_23 : decode mX4_init.2.2.1 23 = .ok (.aload_n 0, 1) := by decide +kernel
theorem dX4_init_24 : decode mX4_init.2.2.1 24 = .ok (.bipush 6, 2) := by decide +kernel
theorem dX4_init_26 : decode mX4_init.2.2.1 26 = .ok (.newarray .int, 2) := by decide +kernel
theorem dX4_init_28 : decode mX4_init.2.2.1 28 = .ok (.putfield 22, 3) := by decide +kernel
theorem dX4_init_31 : decode mX4_init.2.2.1 31 = .ok (.aload_n 0, 1) := by decide +kernel
theorem dX4_init_32 : decode mX4_init.2.2.1 32 = .ok (.bipush 6, 2) := by decide +kernel
theorem dX4_init_34 : decode mX4_init.2.2.1 34 = .ok (.newarray .int, 2) := by decide +kernel
theorem dX4_init_36 : decode mX4_init.2.2.1 36 = .ok (.putfield 25, 3) := by decide +kernel
theorem dX4_init_39 : decode mX4_init.2.2.1 39 = .ok (.return_, 1) := by decide +kernel
theorem dX4_copyLot_0 : decode mX4_copyLot.2.2.1 0 = .ok (.aload_n 0, 1) := by decide +kernel
theorem dX4_copyLot_1 : decode mX4_copyLot.2.2.1 1 = .ok (.getfield 12, 3) := by decide +kernel
theorem dX4_copyLot_4 : decode mX4_copyLot.2.2.1 4 = .ok (.aload_n 1, 1) := by decide +kernel
theorem dX4_copyLot_5 : decode mX4_copyLot.2.2.1 5 = .ok (.getfield 12, 3) := by decide +kernel
theorem dX4_copyLot_8 : decode mX4_copyLot.2.2.1 8 = .ok (.invokevirtual 28, 3) := by decide +kernel
theorem dX4_copyLot_11 : decode mX4_copyLot.2.2.1 11 = .ok (.aload_n 1, 1) := by decide +kernel
theorem dX4_copyLot_12 : decode mX4_copyLot.2.2.1 12 = .ok (.getfield 18, 3) := by decide +kernel
theorem dX4_copyLot_15 : decode mX4_copyLot.2.2.1 15 = .ok (.aload_n 0, 1) := by decide +kernel
theorem dX4_copyLot_16 : decode mX4_copyLot.2.2.1 16 = .ok (.getfield 18, 3) := by decide +kernel
theorem dX4_copyLot_19 : decode mX4_copyLot.2.2.1 19 = .ok (.invokestatic 32, 3) := by decide +kernel
theorem dX4_copyLot_22 : decode mX4_copyLot.2.2.1 22 = .ok (.aload_n 1, 1) := by decide +kernel
theorem dX4_copyLot_23 : decode mX4_copyLot.2.2.1 23 = .ok (.getfield 22, 3) := by decide +kernel
theorem dX4_copyLot_26 : decode mX4_copyLot.2.2.1 26 = .ok (.aload_n 0, 1) := by decide +kernel
theorem dX4_copyLot_27 : decode mX4_copyLot.2.2.1 27 = .ok (.getfield 22, 3) := by decide +kernel
theorem dX4_copyLot_30 : decode mX4_copyLot.2.2.1 30 = .ok (.invokestatic 32, 3) := by decide +kernel
theorem dX4_copyLot_33 : decode mX4_copyLot.2.2.1 33 = .ok (.aload_n 1, 1) := by decide +kernel
theorem dX4_copyLot_34 : decode mX4_copyLot.2.2.1 34 = .ok (.getfield 25, 3) := by decide +kernel
theorem dX4_copyLot_37 : decode mX4_copyLot.2.2.1 37 = .ok (.aload_n 0, 1) := by decide +kernel
theorem dX4_copyLot_38 : decode mX4_copyLot.2.2.1 38 = .ok (.getfield 25, 3) := by decide +kernel
theorem dX4_copyLot_41 : decode mX4_copyLot.2.2.1 41 = .ok (.invokestatic 32, 3) := by decide +kernel
theorem dX4_copyLot_44 : decode mX4_copyLot.2.2.1 44 = .ok (.aload_n 0, 1) := by decide +kernel
theorem dX4_copyLot_45 : decode mX4_copyLot.2.2.1 45 = .ok (.aload_n 1, 1) := by decide +kernel
theorem dX4_copyLot_46 : decode mX4_copyLot.2.2.1 46 = .ok (.getfield 36, 3) := by decide +kernel
theorem dX4_copyLot_49 : decode mX4_copyLot.2.2.1 49 = .ok (.putfield 36, 3) := by decide +kernel
theorem dX4_copyLot_52 : decode mX4_copyLot.2.2.1 52 = .ok (.aload_n 0, 1) := by decide +kernel
theorem dX4_copyLot_53 : decode mX4_copyLot.2.2.1 53 = .ok (.aload_n 1, 1) := by decide +kernel
theorem dX4_copyLot_54 : decode mX4_copyLot.2.2.1 54 = .ok (.getfield 40, 3) := by decide +kernel
theorem dX4_copyLot_57 : decode mX4_copyLot.2.2.1 57 = .ok (.putfield 40, 3) := by decide +kernel
theorem dX4_copyLot_60 : decode mX4_copyLot.2.2.1 60 = .ok (.aload_n 0, 1) := by decide +kernel
theorem dX4_copyLot_61 : decode mX4_copyLot.2.2.1 61 = .ok (.aload_n 1, 1) := by decide +kernel
theorem dX4_copyLot_62 : decode mX4_copyLot.2.2.1 62 = .ok (.getfield 44, 3) := by decide +kernel
theorem dX4_copyLot_65 : decode mX4_copyLot.2.2.1 65 = .ok (.putfield 44, 3) := by decide +kernel
theorem dX4_copyLot_68 : decode mX4_copyLot.2.2.1 68 = .ok (.aload_n 0, 1) := by decide +kernel
theorem dX4_copyLot_69 : decode mX4_copyLot.2.2.1 69 = .ok (.aload_n 1, 1) := by decide +kernel
theorem dX4_copyLot_70 : decode mX4_copyLot.2.2.1 70 = .ok (.getfield 47, 3) := by decide +kernel
theorem dX4_copyLot_73 : decode mX4_copyLot.2.2.1 73 = .ok (.putfield 47, 3) := by decide +kernel
theorem dX4_copyLot_76 : decode mX4_copyLot.2.2.1 76 = .ok (.return_, 1) := by decide +kernel
theorem dX4_quote_0 : decode mX4_quote.2.2.1 0 = .ok (.aload_n 0, 1) := by decide +kernel
theorem dX4_quote_1 : decode mX4_quote.2.2.1 1 = .ok (.getfield 47, 3) := by decide +kernel
theorem dX4_quote_4 : decode mX4_quote.2.2.1 4 = .ok (.ifCond .gt 6, 3) := by decide +kernel
theorem dX4_quote_7 : decode mX4_quote.2.2.1 7 = .ok (.bipush 10, 2) := by decide +kernel
theorem dX4_quote_9 : decode mX4_quote.2.2.1 9 = .ok (.ireturn, 1) := by decide +kernel
theorem dX4_quote_10 : decode mX4_quote.2.2.1 10 = .ok (.aload_n 0, 1) := by decide +kernel
theorem dX4_quote_11 : decode mX4_quote.2.2.1 11 = .ok (.getfield 44, 3) := by decide +kernel
theorem dX4_quote_14 : decode mX4_quote.2.2.1 14 = .ok (.aload_n 0, 1) := by decide +kernel
theorem dX4_quote_15 : decode mX4_quote.2.2.1 15 = .ok (.getfield 47, 3) := by decide +kernel
theorem dX4_quote_18 : decode mX4_quote.2.2.1 18 = .ok (.idiv, 1) := by decide +kernel
theorem dX4_quote_19 : decode mX4_quote.2.2.1 19 = .ok (.istore_n 1, 1) := by decide +kernel
theorem dX4_quote_20 : decode mX4_quote.2.2.1 20 = .ok (.bipush 10, 2) := by decide +kernel
theorem dX4_quote_22 : decode mX4_quote.2.2.1 22 = .ok (.iload_n 1, 1) := by decide +kernel
theorem dX4_quote_23 : decode mX4_quote.2.2.1 23 = .ok (.iload_n 1, 1) := by decide +kernel
theorem dX4_quote_24 : decode mX4_quote.2.2.1 24 = .ok (.imul, 1) := by decide +kernel
theorem dX4_quote_25 : decode mX4_quote.2.2.1 25 = .ok (.bipush 100, 2) := by decide +kernel
theorem dX4_quote_27 : decode mX4_quote.2.2.1 27 = .ok (.idiv, 1) := by decide +kernel
theorem dX4_quote_28 : decode mX4_quote.2.2.1 28 = .ok (.iadd, 1) := by decide +kernel
theorem dX4_quote_29 : decode mX4_quote.2.2.1 29 = .ok (.ireturn, 1) := by decide +kernel
theorem dX4_allHeld_0 : decode mX4_allHeld.2.2.1 0 = .ok (.aload_n 0, 1) := by decide +kernel
theorem dX4_allHeld_1 : decode mX4_allHeld.2.2.1 1 = .ok (.getfield 18, 3) := by decide +kernel
theorem dX4_allHeld_4 : decode mX4_allHeld.2.2.1 4 = .ok (.invokestatic 50, 3) := by decide +kernel
theorem dX4_allHeld_7 : decode mX4_allHeld.2.2.1 7 = .ok (.ireturn, 1) := by decide +kernel
theorem dX4_allDelivered_0 : decode mX4_allDelivered.2.2.1 0 = .ok (.aload_n 0, 1) := by decide +kernel
theorem dX4_allDelivered_1 : decode mX4_allDelivered.2.2.1 1 = .ok (.getfield 25, 3) := by decide +kernel
theorem dX4_allDelivered_4 : decode mX4_allDelivered.2.2.1 4 = .ok (.invokestatic 50, 3) := by decide +kernel
theorem dX4_allDelivered_7 : decode mX4_allDelivered.2.2.1 7 = .ok (.ireturn, 1) := by decide +kernel
theorem dX4_casesNow_0 : decode mX4_casesNow.2.2.1 0 = .ok (.aload_n 0, 1) := by decide +kernel
theorem dX4_casesNow_1 : decode mX4_casesNow.2.2.1 1 = .ok (.getfield 36, 3) := by decide +kernel
theorem dX4_casesNow_4 : decode mX4_casesNow.2.2.1 4 = .ok (.ifCond .eq 15, 3) := by decide +kernel
theorem dX4_casesNow_7 : decode mX4_casesNow.2.2.1 7 = .ok (.aload_n 0, 1) := by decide +kernel
theorem dX4_casesNow_8 : decode mX4_casesNow.2.2.1 8 = .ok (.getfield 40, 3) := by decide +kernel
theorem dX4_casesNow_11 : decode mX4_casesNow.2.2.1 11 = .ok (.aload_n 0, 1) := by decide +kernel
theorem dX4_casesNow_12 : decode mX4_casesNow.2.2.1 12 = .ok (.invokevirtual 54, 3) := by decide +kernel
theorem dX4_casesNow_15 : decode mX4_casesNow.2.2.1 15 = .ok (.isub, 1) := by decide +kernel
theorem dX4_casesNow_16 : decode mX4_casesNow.2.2.1 16 = .ok (.goto 11, 3) := by decide +kernel
theorem dX4_casesNow_19 : decode mX4_casesNow.2.2.1 19 = .ok (.aload_n 0, 1) := by decide +kernel
theorem dX4_casesNow_20 : decode mX4_casesNow.2.2.1 20 = .ok (.getfield 12, 3) := by decide +kernel
theorem dX4_casesNow_23 : decode mX4_casesNow.2.2.1 23 = .ok (.iconst 0, 1) := by decide +kernel
theorem dX4_casesNow_24 : decode mX4_casesNow.2.2.1 24 = .ok (.invokevirtual 58, 3) := by decide +kernel
theorem dX4_casesNow_27 : decode mX4_casesNow.2.2.1 27 = .ok (.ireturn, 1) := by decide +kernel
theorem dX4_heldBy_0 : decode mX4_heldBy.2.2.1 0 = .ok (.iload_n 1, 1) := by decide +kernel
theorem dX4_heldBy_1 : decode mX4_heldBy.2.2.1 1 = .ok (.ifCond .lt 21, 3) := by decide +kernel
theorem dX4_heldBy_4 : decode mX4_heldBy.2.2.1 4 = .ok (.iload_n 1, 1) := by decide +kernel
theorem dX4_heldBy_5 : decode mX4_heldBy.2.2.1 5 = .ok (.aload_n 0, 1) := by decide +kernel
theorem dX4_heldBy_6 : decode mX4_heldBy.2.2.1 6 = .ok (.getfield 18, 3) := by decide +kernel
theorem dX4_heldBy_9 : decode mX4_heldBy.2.2.1 9 = .ok (.arraylength, 1) := by decide +kernel
theorem dX4_heldBy_10 : decode mX4_heldBy.2.2.1 10 = .ok (.if_icmp .ge 12, 3) := by decide +kernel
theorem dX4_heldBy_13 : decode mX4_heldBy.2.2.1 13 = .ok (.aload_n 0, 1) := by decide +kernel
theorem dX4_heldBy_14 : decode mX4_heldBy.2.2.1 14 = .ok (.getfield 18, 3) := by decide +kernel
theorem dX4_heldBy_17 : decode mX4_heldBy.2.2.1 17 = .ok (.iload_n 1, 1) := by decide +kernel
theorem dX4_heldBy_18 : decode mX4_heldBy.2.2.1 18 = .ok (.iaload, 1) := by decide +kernel
theorem dX4_heldBy_19 : decode mX4_heldBy.2.2.1 19 = .ok (.goto 4, 3) := by decide +kernel
theorem dX4_heldBy_22 : decode mX4_heldBy.2.2.1 22 = .ok (.iconst 0, 1) := by decide +kernel
theorem dX4_heldBy_23 : decode mX4_heldBy.2.2.1 23 = .ok (.ireturn, 1) := by decide +kernel
theorem dX4_paidBy_0 : decode mX4_paidBy.2.2.1 0 = .ok (.iload_n 1, 1) := by decide +kernel
theorem dX4_paidBy_1 : decode mX4_paidBy.2.2.1 1 = .ok (.ifCond .lt 21, 3) := by decide +kernel
theorem dX4_paidBy_4 : decode mX4_paidBy.2.2.1 4 = .ok (.iload_n 1, 1) := by decide +kernel
theorem dX4_paidBy_5 : decode mX4_paidBy.2.2.1 5 = .ok (.aload_n 0, 1) := by decide +kernel
theorem dX4_paidBy_6 : decode mX4_paidBy.2.2.1 6 = .ok (.getfield 22, 3) := by decide +kernel
theorem dX4_paidBy_9 : decode mX4_paidBy.2.2.1 9 = .ok (.arraylength, 1) := by decide +kernel
theorem dX4_paidBy_10 : decode mX4_paidBy.2.2.1 10 = .ok (.if_icmp .ge 12, 3) := by decide +kernel
theorem dX4_paidBy_13 : decode mX4_paidBy.2.2.1 13 = .ok (.aload_n 0, 1) := by decide +kernel
theorem dX4_paidBy_14 : decode mX4_paidBy.2.2.1 14 = .ok (.getfield 22, 3) := by decide +kernel
theorem dX4_paidBy_17 : decode mX4_paidBy.2.2.1 17 = .ok (.iload_n 1, 1) := by decide +kernel
theorem dX4_paidBy_18 : decode mX4_paidBy.2.2.1 18 = .ok (.iaload, 1) := by decide +kernel
theorem dX4_paidBy_19 : decode mX4_paidBy.2.2.1 19 = .ok (.goto 4, 3) := by decide +kernel
theorem dX4_paidBy_22 : decode mX4_paidBy.2.2.1 22 = .ok (.iconst 0, 1) := by decide +kernel
theorem dX4_paidBy_23 : decode mX4_paidBy.2.2.1 23 = .ok (.ireturn, 1) := by decide +kernel
theorem dX4_deliveredTo_0 : decode mX4_deliveredTo.2.2.1 0 = .ok (.iload_n 1, 1) := by decide +kernel
theorem dX4_deliveredTo_1 : decode mX4_deliveredTo.2.2.1 1 = .ok (.ifCond .lt 21, 3) := by decide +kernel
theorem dX4_deliveredTo_4 : decode mX4_deliveredTo.2.2.1 4 = .ok (.iload_n 1, 1) := by decide +kernel
theorem dX4_deliveredTo_5 : decode mX4_deliveredTo.2.2.1 5 = .ok (.aload_n 0, 1) := by decide +kernel
theorem dX4_deliveredTo_6 : decode mX4_deliveredTo.2.2.1 6 = .ok (.getfield 25, 3) := by decide +kernel
theorem dX4_deliveredTo_9 : decode mX4_deliveredTo.2.2.1 9 = .ok (.arraylength, 1) := by decide +kernel
theorem dX4_deliveredTo_10 : decode mX4_deliveredTo.2.2.1 10 = .ok (.if_icmp .ge 12, 3) := by decide +kernel
theorem dX4_deliveredTo_13 : decode mX4_deliveredTo.2.2.1 13 = .ok (.aload_n 0, 1) := by decide +kernel
theorem dX4_deliveredTo_14 : decode mX4_deliveredTo.2.2.1 14 = .ok (.getfield 25, 3) := by decide +kernel
theorem dX4_deliveredTo_17 : decode mX4_deliveredTo.2.2.1 17 = .ok (.iload_n 1, 1) := by decide +kernel
theorem dX4_deliveredTo_18 : decode mX4_deliveredTo.2.2.1 18 = .ok (.iaload, 1) := by decide +kernel
theorem dX4_deliveredTo_19 : decode mX4_deliveredTo.2.2.1 19 = .ok (.goto 4, 3) := by decide +kernel
theorem dX4_deliveredTo_22 : decode mX4_deliveredTo.2.2.1 22 = .ok (.iconst 0, 1) := by decide +kernel
theorem dX4_deliveredTo_23 : decode mX4_deliveredTo.2.2.1 23 = .ok (.ireturn, 1) := by decide +kernel
theorem dX4_give_0 : decode mX4_give.2.2.1 0 = .ok (.iload_n 1, 1) := by decide +kernel
theorem dX4_give_1 : decode mX4_give.2.2.1 1 = .ok (.ifCond .lt 41, 3) := by decide +kernel
theorem dX4_give_4 : decode mX4_give.2.2.1 4 = .ok (.iload_n 1, 1) := by decide +kernel
theorem dX4_give_5 : decode mX4_give.2.2.1 5 = .ok (.aload_n 0, 1) := by decide +kernel
theorem dX4_give_6 : decode mX4_give.2.2.1 6 = .ok (.getfield 18, 3) := by decide +kernel
theorem dX4_give_9 : decode mX4_give.2.2.1 9 = .ok (.arraylength, 1) := by decide +kernel
theorem dX4_give_10 : decode mX4_give.2.2.1 10 = .ok (.if_icmp .ge 32, 3) := by decide +kernel
theorem dX4_give_13 : decode mX4_give.2.2.1 13 = .ok (.iload_n 1, 1) := by decide +kernel
theorem dX4_give_14 : decode mX4_give.2.2.1 14 = .ok (.aload_n 0, 1) := by decide +kernel
theorem dX4_give_15 : decode mX4_give.2.2.1 15 = .ok (.getfield 22, 3) := by decide +kernel
theorem dX4_give_18 : decode mX4_give.2.2.1 18 = .ok (.arraylength, 1) := by decide +kernel
theorem dX4_give_19 : decode mX4_give.2.2.1 19 = .ok (.if_icmp .ge 23, 3) := by decide +kernel
theorem dX4_give_22 : decode mX4_give.2.2.1 22 = .ok (.aload_n 0, 1) := by decide +kernel
theorem dX4_give_23 : decode mX4_give.2.2.1 23 = .ok (.getfield 18, 3) := by decide +kernel
theorem dX4_give_26 : decode mX4_give.2.2.1 26 = .ok (.iload_n 1, 1) := by decide +kernel
theorem dX4_give_27 : decode mX4_give.2.2.1 27 = .ok (.dup2, 1) := by decide +kernel
theorem dX4_give_28 : decode mX4_give.2.2.1 28 = .ok (.iaload, 1) := by decide +kernel
theorem dX4_give_29 : decode mX4_give.2.2.1 29 = .ok (.iload_n 2, 1) := by decide +kernel
theorem dX4_give_30 : decode mX4_give.2.2.1 30 = .ok (.iadd, 1) := by decide +kernel
theorem dX4_give_31 : decode mX4_give.2.2.1 31 = .ok (.iastore, 1) := by decide +kernel
theorem dX4_give_32 : decode mX4_give.2.2.1 32 = .ok (.aload_n 0, 1) := by decide +kernel
theorem dX4_give_33 : decode mX4_give.2.2.1 33 = .ok (.getfield 22, 3) := by decide +kernel
theorem dX4_give_36 : decode mX4_give.2.2.1 36 = .ok (.iload_n 1, 1) := by decide +kernel
theorem dX4_give_37 : decode mX4_give.2.2.1 37 = .ok (.dup2, 1) := by decide +kernel
theorem dX4_give_38 : decode mX4_give.2.2.1 38 = .ok (.iaload, 1) := by decide +kernel
theorem dX4_give_39 : decode mX4_give.2.2.1 39 = .ok (.iload_n 3, 1) := by decide +kernel
theorem dX4_give_40 : decode mX4_give.2.2.1 40 = .ok (.iadd, 1) := by decide +kernel
theorem dX4_give_41 : decode mX4_give.2.2.1 41 = .ok (.iastore, 1) := by decide +kernel
theorem dX4_give_42 : decode mX4_give.2.2.1 42 = .ok (.return_, 1) := by decide +kernel
theorem dX4_takeBack_0 : decode mX4_takeBack.2.2.1 0 = .ok (.aload_n 0, 1) := by decide +kernel
theorem dX4_takeBack_1 : decode mX4_takeBack.2.2.1 1 = .ok (.iload_n 1, 1) := by decide +kernel
theorem dX4_takeBack_2 : decode mX4_takeBack.2.2.1 2 = .ok (.invokevirtual 62, 3) := by decide +kernel
theorem dX4_takeBack_5 : decode mX4_takeBack.2.2.1 5 = .ok (.iload_n 2, 1) := by decide +kernel
theorem dX4_takeBack_6 : decode mX4_takeBack.2.2.1 6 = .ok (.aload_n 0, 1) := by decide +kernel
theorem dX4_takeBack_7 : decode mX4_takeBack.2.2.1 7 = .ok (.iload_n 1, 1) := by decide +kernel
theorem dX4_takeBack_8 : decode mX4_takeBack.2.2.1 8 = .ok (.invokevirtual 65, 3) := by decide +kernel
theorem dX4_takeBack_11 : decode mX4_takeBack.2.2.1 11 = .ok (.invokestatic 68, 3) := by decide +kernel
theorem dX4_takeBack_14 : decode mX4_takeBack.2.2.1 14 = .ok (.istore_n 3, 1) := by decide +kernel
theorem dX4_takeBack_15 : decode mX4_takeBack.2.2.1 15 = .ok (.aload_n 0, 1) := by decide +kernel
theorem dX4_takeBack_16 : decode mX4_takeBack.2.2.1 16 = .ok (.iload_n 1, 1) := by decide +kernel
theorem dX4_takeBack_17 : decode mX4_takeBack.2.2.1 17 = .ok (.iload_n 2, 1) := by decide +kernel
theorem dX4_takeBack_18 : decode mX4_takeBack.2.2.1 18 = .ok (.ineg, 1) := by decide +kernel
theorem dX4_takeBack_19 : decode mX4_takeBack.2.2.1 19 = .ok (.iload_n 3, 1) := by decide +kernel
theorem dX4_takeBack_20 : decode mX4_takeBack.2.2.1 20 = .ok (.ineg, 1) := by decide +kernel
theorem dX4_takeBack_21 : decode mX4_takeBack.2.2.1 21 = .ok (.invokevirtual 72, 3) := by decide +kernel
theorem dX4_takeBack_24 : decode mX4_takeBack.2.2.1 24 = .ok (.iload_n 3, 1) := by decide +kernel
theorem dX4_takeBack_25 : decode mX4_takeBack.2.2.1 25 = .ok (.ireturn, 1) := by decide +kernel
theorem dX4_deliver_0 : decode mX4_deliver.2.2.1 0 = .ok (.iload_n 1, 1) := by decide +kernel
theorem dX4_deliver_1 : decode mX4_deliver.2.2.1 1 = .ok (.ifCond .lt 29, 3) := by decide +kernel
theorem dX4_deliver_4 : decode mX4_deliver.2.2.1 4 = .ok (.iload_n 1, 1) := by decide +kernel
theorem dX4_deliver_5 : decode mX4_deliver.2.2.1 5 = .ok (.aload_n 0, 1) := by decide +kernel
theorem dX4_deliver_6 : decode mX4_deliver.2.2.1 6 = .ok (.getfield 25, 3) := by decide +kernel
theorem dX4_deliver_9 : decode mX4_deliver.2.2.1 9 = .ok (.arraylength, 1) := by decide +kernel
theorem dX4_deliver_10 : decode mX4_deliver.2.2.1 10 = .ok (.if_icmp .ge 20, 3) := by decide +kernel
theorem dX4_deliver_13 : decode mX4_deliver.2.2.1 13 = .ok (.aload_n 0, 1) := by decide +kernel
theorem dX4_deliver_14 : decode mX4_deliver.2.2.1 14 = .ok (.iload_n 1, 1) := by decide +kernel
theorem dX4_deliver_15 : decode mX4_deliver.2.2.1 15 = .ok (.iload_n 2, 1) := by decide +kernel
theorem dX4_deliver_16 : decode mX4_deliver.2.2.1 16 = .ok (.invokevirtual 76, 3) := by decide +kernel
theorem dX4_deliver_19 : decode mX4_deliver.2.2.1 19 = .ok (.pop, 1) := by decide +kernel
theorem dX4_deliver_20 : decode mX4_deliver.2.2.1 20 = .ok (.aload_n 0, 1) := by decide +kernel
theorem dX4_deliver_21 : decode mX4_deliver.2.2.1 21 = .ok (.getfield 25, 3) := by decide +kernel
theorem dX4_deliver_24 : decode mX4_deliver.2.2.1 24 = .ok (.iload_n 1, 1) := by decide +kernel
theorem dX4_deliver_25 : decode mX4_deliver.2.2.1 25 = .ok (.dup2, 1) := by decide +kernel
theorem dX4_deliver_26 : decode mX4_deliver.2.2.1 26 = .ok (.iaload, 1) := by decide +kernel
theorem dX4_deliver_27 : decode mX4_deliver.2.2.1 27 = .ok (.iload_n 2, 1) := by decide +kernel
theorem dX4_deliver_28 : decode mX4_deliver.2.2.1 28 = .ok (.iadd, 1) := by decide +kernel
theorem dX4_deliver_29 : decode mX4_deliver.2.2.1 29 = .ok (.iastore, 1) := by decide +kernel
theorem dX4_deliver_30 : decode mX4_deliver.2.2.1 30 = .ok (.return_, 1) := by decide +kernel
theorem dX4_cutOf_0 : decode mX4_cutOf.2.2.1 0 = .ok (.iload_n 3, 1) := by decide +kernel
theorem dX4_cutOf_1 : decode mX4_cutOf.2.2.1 1 = .ok (.iload_n 2, 1) := by decide +kernel
theorem dX4_cutOf_2 : decode mX4_cutOf.2.2.1 2 = .ok (.if_icmp .gt 5, 3) := by decide +kernel
theorem dX4_cutOf_5 : decode mX4_cutOf.2.2.1 5 = .ok (.iconst 0, 1) := by decide +kernel
theorem dX4_cutOf_6 : decode mX4_cutOf.2.2.1 6 = .ok (.ireturn, 1) := by decide +kernel
theorem dX4_cutOf_7 : decode mX4_cutOf.2.2.1 7 = .ok (.aload_n 0, 1) := by decide +kernel
theorem dX4_cutOf_8 : decode mX4_cutOf.2.2.1 8 = .ok (.iload_n 1, 1) := by decide +kernel
theorem dX4_cutOf_9 : decode mX4_cutOf.2.2.1 9 = .ok (.invokevirtual 65, 3) := by decide +kernel
theorem dX4_cutOf_12 : decode mX4_cutOf.2.2.1 12 = .ok (.aload_n 0, 1) := by decide +kernel
theorem dX4_cutOf_13 : decode mX4_cutOf.2.2.1 13 = .ok (.iload_n 1, 1) := by decide +kernel
theorem dX4_cutOf_14 : decode mX4_cutOf.2.2.1 14 = .ok (.invokevirtual 65, 3) := by decide +kernel
theorem dX4_cutOf_17 : decode mX4_cutOf.2.2.1 17 = .ok (.iload_n 2, 1) := by decide +kernel
theorem dX4_cutOf_18 : decode mX4_cutOf.2.2.1 18 = .ok (.iload_n 3, 1) := by decide +kernel
theorem dX4_cutOf_19 : decode mX4_cutOf.2.2.1 19 = .ok (.invokestatic 68, 3) := by decide +kernel
theorem dX4_cutOf_22 : decode mX4_cutOf.2.2.1 22 = .ok (.isub, 1) := by decide +kernel
theorem dX4_cutOf_23 : decode mX4_cutOf.2.2.1 23 = .ok (.ireturn, 1) := by decide +kernel
theorem dX4_fillBottles_0 : decode mX4_fillBottles.2.2.1 0 = .ok (.aload_n 0, 1) := by decide +kernel
theorem dX4_fillBottles_1 : decode mX4_fillBottles.2.2.1 1 = .ok (.aload_n 0, 1) := by decide +kernel
theorem dX4_fillBottles_2 : decode mX4_fillBottles.2.2.1 2 = .ok (.getfield 12, 3) := by decide +kernel
theorem dX4_fillBottles_5 : decode mX4_fillBottles.2.2.1 5 = .ok (.iconst 0, 1) := by decide +kernel
theorem dX4_fillBottles_6 : decode mX4_fillBottles.2.2.1 6 = .ok (.invokevirtual 58, 3) := by decide +kernel
theorem dX4_fillBottles_9 : decode mX4_fillBottles.2.2.1 9 = .ok (.putfield 40, 3) := by decide +kernel
theorem dX4_fillBottles_12 : decode mX4_fillBottles.2.2.1 12 = .ok (.aload_n 0, 1) := by decide +kernel
theorem dX4_fillBottles_13 : decode mX4_fillBottles.2.2.1 13 = .ok (.iconst 1, 1) := by decide +kernel
theorem dX4_fillBottles_14 : decode mX4_fillBottles.2.2.1 14 = .ok (.putfield 36, 3) := by decide +kernel
theorem dX4_fillBottles_17 : decode mX4_fillBottles.2.2.1 17 = .ok (.aload_n 0, 1) := by decide +kernel
theorem dX4_fillBottles_18 : decode mX4_fillBottles.2.2.1 18 = .ok (.getfield 12, 3) := by decide +kernel
theorem dX4_fillBottles_21 : decode mX4_fillBottles.2.2.1 21 = .ok (.iconst 0, 1) := by decide +kernel
theorem dX4_fillBottles_22 : decode mX4_fillBottles.2.2.1 22 = .ok (.aload_n 0, 1) := by decide +kernel
theorem dX4_fillBottles_23 : decode mX4_fillBottles.2.2.1 23 = .ok (.getfield 12, 3) := by decide +kernel
theorem dX4_fillBottles_26 : decode mX4_fillBottles.2.2.1 26 = .ok (.getfield 80, 3) := by decide +kernel
theorem dX4_fillBottles_29 : decode mX4_fillBottles.2.2.1 29 = .ok (.invokevirtual 83, 3) := by decide +kernel
theorem dX4_fillBottles_32 : decode mX4_fillBottles.2.2.1 32 = .ok (.return_, 1) := by decide +kernel
theorem dX5_init_0 : decode mX5_init.2.2.1 0 = .ok (.aload_n 0, 1) := by decide +kernel
theorem dX5_init_1 : decode mX5_init.2.2.1 1 = .ok (.invokespecial 3, 3) := by decide +kernel
theorem dX5_init_4 : decode mX5_init.2.2.1 4 = .ok (.aload_n 0, 1) := by decide +kernel
theorem dX5_init_5 : decode mX5_init.2.2.1 5 = .ok (.bipush 60, 2) := by decide +kernel
theorem dX5_init_7 : decode mX5_init.2.2.1 7 = .ok (.newarray .int, 2) := by decide +kernel
theorem dX5_init_9 : decode mX5_init.2.2.1 9 = .ok (.putfield 9, 3) := by decide +kernel
theorem dX5_init_12 : decode mX5_init.2.2.1 12 = .ok (.aload_n 0, 1) := by decide +kernel
theorem dX5_init_13 : decode mX5_init.2.2.1 13 = .ok (.iconst 4, 1) := by decide +kernel
theorem dX5_init_14 : decode mX5_init.2.2.1 14 = .ok (.newarray .int, 2) := by decide +kernel
theorem dX5_init_16 : decode mX5_init.2.2.1 16 = .ok (.putfield 15, 3) := by decide +kernel
theorem dX5_init_19 : decode mX5_init.2.2.1 19 = .ok (.return_, 1) := by decide +kernel
theorem dX5_append_0 : decode mX5_append.2.2.1 0 = .ok (.iload_n 1, 1) := by decide +kernel
theorem dX5_append_1 : decode mX5_append.2.2.1 1 = .ok (.bipush 32, 2) := by decide +kernel
theorem dX5_append_3 : decode mX5_append.2.2.1 3 = .ok (.bipush 126, 2) := by decide +kernel
theorem dX5_append_5 : decode mX5_append.2.2.1 5 = .ok (.invokestatic 18, 3) := by decide +kernel
theorem dX5_append_8 : decode mX5_append.2.2.1 8 = .ok (.ifCond .ne 6, 3) := by decide +kernel
theorem dX5_append_11 : decode mX5_append.2.2.1 11 = .ok (.ldc 22, 2) := by decide +kernel
theorem dX5_append_13 : decode mX5_append.2.2.1 13 = .ok (.ireturn, 1) := by decide +kernel
theorem dX5_append_14 : decode mX5_append.2.2.1 14 = .ok (.aload_n 0, 1) := by decide +kernel
theorem dX5_append_15 : decode mX5_append.2.2.1 15 = .ok (.getfield 23, 3) := by decide +kernel
theorem dX5_append_18 : decode mX5_append.2.2.1 18 = .ok (.ifCond .lt 15, 3) := by decide +kernel
theorem dX5_append_21 : decode mX5_append.2.2.1 21 = .ok (.aload_n 0, 1) := by decide +kernel
theorem dX5_append_22 : decode mX5_append.2.2.1 22 = .ok (.getfield 23, 3) := by decide +kernel
theorem dX5_append_25 : decode mX5_append.2.2.1 25 = .ok (.aload_n 0, 1) := by decide +kernel
theorem dX5_append_26 : decode mX5_append.2.2.1 26 = .ok (.getfield 9, 3) := by decide +kernel
theorem dX5_append_29 : decode mX5_append.2.2.1 29 = .ok (.arraylength, 1) := by decide +kernel
theorem dX5_append_30 : decode mX5_append.2.2.1 30 = .ok (.if_icmp .lt 6, 3) := by decide +kernel
theorem dX5_append_33 : decode mX5_append.2.2.1 33 = .ok (.ldc 27, 2) := by decide +kernel
theorem dX5_append_35 : decode mX5_append.2.2.1 35 = .ok (.ireturn, 1) := by decide +kernel
theorem dX5_append_36 : decode mX5_append.2.2.1 36 = .ok (.aload_n 0, 1) := by decide +kernel
theorem dX5_append_37 : decode mX5_append.2.2.1 37 = .ok (.getfield 9, 3) := by decide +kernel
theorem dX5_append_40 : decode mX5_append.2.2.1 40 = .ok (.aload_n 0, 1) := by decide +kernel
theorem dX5_append_41 : decode mX5_append.2.2.1 41 = .ok (.getfield 23, 3) := by decide +kernel
theorem dX5_append_44 : decode mX5_append.2.2.1 44 = .ok (.iload_n 1, 1) := by decide +kernel
theorem dX5_append_45 : decode mX5_append.2.2.1 45 = .ok (.iastore, 1) := by decide +kernel
theorem dX5_append_46 : decode mX5_append.2.2.1 46 = .ok (.aload_n 0, 1) := by decide +kernel
theorem dX5_append_47 : decode mX5_append.2.2.1 47 = .ok (.dup, 1) := by decide +kernel
theorem dX5_append_48 : decode mX5_append.2.2.1 48 = .ok (.getfield 23, 3) := by decide +kernel
theorem dX5_append_51 : decode mX5_append.2.2.1 51 = .ok (.iconst 1, 1) := by decide +kernel
theorem dX5_append_52 : decode mX5_append.2.2.1 52 = .ok (.iadd, 1) := by decide +kernel
theorem dX5_append_53 : decode mX5_append.2.2.1 53 = .ok (.putfield 23, 3) := by decide +kernel
theorem dX5_append_56 : decode mX5_append.2.2.1 56 = .ok (.aload_n 0, 1) := by decide +kernel
theorem dX5_append_57 : decode mX5_append.2.2.1 57 = .ok (.getfield 23, 3) := by decide +kernel
theorem dX5_append_60 : decode mX5_append.2.2.1 60 = .ok (.ireturn, 1) := by decide +kernel
theorem dX5_empty_0 : decode mX5_empty.2.2.1 0 = .ok (.aload_n 0, 1) := by decide +kernel
theorem dX5_empty_1 : decode mX5_empty.2.2.1 1 = .ok (.getfield 23, 3) := by decide +kernel
theorem dX5_empty_4 : decode mX5_empty.2.2.1 4 = .ok (.istore_n 1, 1) := by decide +kernel
theorem dX5_empty_5 : decode mX5_empty.2.2.1 5 = .ok (.aload_n 0, 1) := by decide +kernel
theorem dX5_empty_6 : decode mX5_empty.2.2.1 6 = .ok (.iconst 0, 1) := by decide +kernel
theorem dX5_empty_7 : decode mX5_empty.2.2.1 7 = .ok (.putfield 23, 3) := by decide +kernel
theorem dX5_empty_10 : decode mX5_empty.2.2.1 10 = .ok (.iload_n 1, 1) := by decide +kernel
theorem dX5_empty_11 : decode mX5_empty.2.2.1 11 = .ok (.ireturn, 1) := by decide +kernel
theorem dX5_sign_0 : decode mX5_sign.2.2.1 0 = .ok (.aload_n 0, 1) := by decide +kernel
theorem dX5_sign_1 : decode mX5_sign.2.2.1 1 = .ok (.getfield 28, 3) := by decide +kernel
theorem dX5_sign_4 : decode mX5_sign.2.2.1 4 = .ok (.ifCond .lt 38, 3) := by decide +kernel
theorem dX5_sign_7 : decode mX5_sign.2.2.1 7 = .ok (.aload_n 0, 1) := by decide +kernel
theorem dX5_sign_8 : decode mX5_sign.2.2.1 8 = .ok (.getfield 28, 3) := by decide +kernel
theorem dX5_sign_11 : decode mX5_sign.2.2.1 11 = .ok (.aload_n 0, 1) := by decide +kernel
theorem dX5_sign_12 : decode mX5_sign.2.2.1 12 = .ok (.getfield 23, 3) := by decide +kernel
theorem dX5_sign_15 : decode mX5_sign.2.2.1 15 = .ok (.if_icmp .ge 27, 3) := by decide +kernel
theorem dX5_sign_18 : decode mX5_sign.2.2.1 18 = .ok (.aload_n 0, 1) := by decide +kernel
theorem dX5_sign_19 : decode mX5_sign.2.2.1 19 = .ok (.getfield 28, 3) := by decide +kernel
theorem dX5_sign_22 : decode mX5_sign.2.2.1 22 = .ok (.aload_n 0, 1) := by decide +kernel
theorem dX5_sign_23 : decode mX5_sign.2.2.1 23 = .ok (.getfield 9, 3) := by decide +kernel
theorem dX5_sign_26 : decode mX5_sign.2.2.1 26 = .ok (.arraylength, 1) := by decide +kernel
theorem dX5_sign_27 : decode mX5_sign.2.2.1 27 = .ok (.if_icmp .ge 15, 3) := by decide +kernel
theorem dX5_sign_30 : decode mX5_sign.2.2.1 30 = .ok (.aload_n 0, 1) := by decide +kernel
theorem dX5_sign_31 : decode mX5_sign.2.2.1 31 = .ok (.getfield 9, 3) := by decide +kernel
theorem dX5_sign_34 : decode mX5_sign.2.2.1 34 = .ok (.aload_n 0, 1) := by decide +kernel
theorem dX5_sign_35 : decode mX5_sign.2.2.1 35 = .ok (.getfield 28, 3) := by decide +kernel
theorem dX5_sign_38 : decode mX5_sign.2.2.1 38 = .ok (.iaload, 1) := by decide +kernel
theorem dX5_sign_39 : decode mX5_sign.2.2.1 39 = .ok (.goto 4, 3) := by decide +kernel
theorem dX5_sign_42 : decode mX5_sign.2.2.1 42 = .ok (.iconst 0, 1) := by decide +kernel
theorem dX5_sign_43 : decode mX5_sign.2.2.1 43 = .ok (.ireturn, 1) := by decide +kernel
theorem dX5_numberAt_0 : decode mX5_numberAt.2.2.1 0 = .ok (.iload_n 1, 1) := by decide +kernel
theorem dX5_numberAt_1 : decode mX5_numberAt.2.2.1 1 = .ok (.ifCond .lt 21, 3) := by decide +kernel
theorem dX5_numberAt_4 : decode mX5_numberAt.2.2.1 4 = .ok (.iload_n 1, 1) := by decide +kernel
theorem dX5_numberAt_5 : decode mX5_numberAt.2.2.1 5 = .ok (.aload_n 0, 1) := by decide +kernel
theorem dX5_numberAt_6 : decode mX5_numberAt.2.2.1 6 = .ok (.getfield 15, 3) := by decide +kernel
theorem dX5_numberAt_9 : decode mX5_numberAt.2.2.1 9 = .ok (.arraylength, 1) := by decide +kernel
theorem dX5_numberAt_10 : decode mX5_numberAt.2.2.1 10 = .ok (.if_icmp .ge 12, 3) := by decide +kernel
theorem dX5_numberAt_13 : decode mX5_numberAt.2.2.1 13 = .ok (.aload_n 0, 1) := by decide +kernel
theorem dX5_numberAt_14 : decode mX5_numberAt.2.2.1 14 = .ok (.getfield 15, 3) := by decide +kernel
theorem dX5_numberAt_17 : decode mX5_numberAt.2.2.1 17 = .ok (.iload_n 1, 1) := by decide +kernel
theorem dX5_numberAt_18 : decode mX5_numberAt.2.2.1 18 = .ok (.iaload, 1) := by decide +kernel
theorem dX5_numberAt_19 : decode mX5_numberAt.2.2.1 19 = .ok (.goto 4, 3) := by decide +kernel
theorem dX5_numberAt_22 : decode mX5_numberAt.2.2.1 22 = .ok (.iconst 0, 1) := by decide +kernel
theorem dX5_numberAt_23 : decode mX5_numberAt.2.2.1 23 = .ok (.ireturn, 1) := by decide +kernel
theorem dX5_read_0 : decode mX5_read.2.2.1 0 = .ok (.aload_n 0, 1) := by decide +kernel
theorem dX5_read_1 : decode mX5_read.2.2.1 1 = .ok (.iload_n 1, 1) := by decide +kernel
theorem dX5_read_2 : decode mX5_read.2.2.1 2 = .ok (.putfield 28, 3) := by decide +kernel
theorem dX5_read_5 : decode mX5_read.2.2.1 5 = .ok (.aload_n 0, 1) := by decide +kernel
theorem dX5_read_6 : decode mX5_read.2.2.1 6 = .ok (.aload_n 0, 1) := by decide +kernel
theorem dX5_read_7 : decode mX5_read.2.2.1 7 = .ok (.invokevirtual 31, 3) := by decide +kernel
theorem dX5_read_10 : decode mX5_read.2.2.1 10 = .ok (.putfield 35, 3) := by decide +kernel
theorem dX5_read_13 : decode mX5_read.2.2.1 13 = .ok (.aload_n 0, 1) := by decide +kernel
theorem dX5_read_14 : decode mX5_read.2.2.1 14 = .ok (.aload_n 0, 1) := by decide +kernel
theorem dX5_read_15 : decode mX5_read.2.2.1 15 = .ok (.getfield 35, 3) := by decide +kernel
theorem dX5_read_18 : decode mX5_read.2.2.1 18 = .ok (.invokevirtual 38, 3) := by decide +kernel
theorem dX5_read_21 : decode mX5_read.2.2.1 21 = .ok (.istore_n 2, 1) := by decide +kernel
theorem dX5_read_22 : decode mX5_read.2.2.1 22 = .ok (.iload_n 2, 1) := by decide +kernel
theorem dX5_read_23 : decode mX5_read.2.2.1 23 = .ok (.ifCond .ne 5, 3) := by decide +kernel
theorem dX5_read_26 : decode mX5_read.2.2.1 26 = .ok (.iconst 0, 1) := by decide +kernel
theorem dX5_read_27 : decode mX5_read.2.2.1 27 = .ok (.ireturn, 1) := by decide +kernel
theorem dX5_read_28 : decode mX5_read.2.2.1 28 = .ok (.aload_n 0, 1) := by decide +kernel
theorem dX5_read_29 : decode mX5_read.2.2.1 29 = .ok (.dup, 1) := by decide +kernel
theorem dX5_read_30 : decode mX5_read.2.2.1 30 = .ok (.getfield 28, 3) := by decide +kernel
theorem dX5_read_33 : decode mX5_read.2.2.1 33 = .ok (.iconst 1, 1) := by decide +kernel
theorem dX5_read_34 : decode mX5_read.2.2.1 34 = .ok (.iadd, 1) := by decide +kernel
theorem dX5_read_35 : decode mX5_read.2.2.1 35 = .ok (.putfield 28, 3) := by decide +kernel
theorem dX5_read_38 : decode mX5_read.2.2.1 38 = .ok (.iconst 0, 1) := by decide +kernel
theorem dX5_read_39 : decode mX5_read.2.2.1 39 = .ok (.istore_n 3, 1) := by decide +kernel
theorem dX5_read_40 : decode mX5_read.2.2.1 40 = .ok (.iload_n 3, 1) := by decide +kernel
theorem dX5_read_41 : decode mX5_read.2.2.1 41 = .ok (.iload_n 2, 1) := by decide +kernel
theorem dX5_read_42 : decode mX5_read.2.2.1 42 = .ok (.if_icmp .ge 54, 3) := by decide +kernel
theorem dX5_read_45 : decode mX5_read.2.2.1 45 = .ok (.iload_n 3, 1) := by decide +kernel
theorem dX5_read_46 : decode mX5_read.2.2.1 46 = .ok (.iload_n 2, 1) := by decide +kernel
theorem dX5_read_47 : decode mX5_read.2.2.1 47 = .ok (.iconst 1, 1) := by decide +kernel
theorem dX5_read_48 : decode mX5_read.2.2.1 48 = .ok (.isub, 1) := by decide +kernel
theorem dX5_read_49 : decode mX5_read.2.2.1 49 = .ok (.if_icmp .ne 8, 3) := by decide +kernel
theorem dX5_read_52 : decode mX5_read.2.2.1 52 = .ok (.bipush 59, 2) := by decide +kernel
theorem dX5_read_54 : decode mX5_read.2.2.1 54 = .ok (.goto 5, 3) := by decide +kernel
theorem dX5_read_57 : decode mX5_read.2.2.1 57 = .ok (.bipush 44, 2) := by decide +kernel
theorem dX5_read_59 : decode mX5_read.2.2.1 59 = .ok (.istore 4, 2) := by decide +kernel
theorem dX5_read_61 : decode mX5_read.2.2.1 61 = .ok (.aload_n 0, 1) := by decide +kernel
theorem dX5_read_62 : decode mX5_read.2.2.1 62 = .ok (.iload_n 3, 1) := by decide +kernel
theorem dX5_read_63 : decode mX5_read.2.2.1 63 = .ok (.invokevirtual 42, 3) := by decide +kernel
theorem dX5_read_66 : decode mX5_read.2.2.1 66 = .ok (.ifCond .eq 12, 3) := by decide +kernel
theorem dX5_read_69 : decode mX5_read.2.2.1 69 = .ok (.aload_n 0, 1) := by decide +kernel
theorem dX5_read_70 : decode mX5_read.2.2.1 70 = .ok (.invokevirtual 31, 3) := by decide +kernel
theorem dX5_read_73 : decode mX5_read.2.2.1 73 = .ok (.iload 4, 2) := by decide +kernel
theorem dX5_read_75 : decode mX5_read.2.2.1 75 = .ok (.if_icmp .eq 5, 3) := by decide +kernel
theorem dX5_read_78 : decode mX5_read.2.2.1 78 = .ok (.iconst 0, 1) := by decide +kernel
theorem dX5_read_79 : decode mX5_read.2.2.1 79 = .ok (.ireturn, 1) := by decide +kernel
theorem dX5_read_80 : decode mX5_read.2.2.1 80 = .ok (.aload_n 0, 1) := by decide +kernel
theorem dX5_read_81 : decode mX5_read.2.2.1 81 = .ok (.dup, 1) := by decide +kernel
theorem dX5_read_82 : decode mX5_read.2.2.1 82 = .ok (.getfield 28, 3) := by decide +kernel
theorem dX5_read_85 : decode mX5_read.2.2.1 85 = .ok (.iconst 1, 1) := by decide +kernel
theorem dX5_read_86 : decode mX5_read.2.2.1 86 = .ok (.iadd, 1) := by decide +kernel
theorem dX5_read_87 : decode mX5_read.2.2.1 87 = .ok (.putfield 28, 3) := by decide +kernel
theorem dX5_read_90 : decode mX5_read.2.2.1 90 = .ok (.iinc 3 1, 3) := by decide +kernel
theorem dX5_read_93 : decode mX5_read.2.2.1 93 = .ok (.goto (-53), 3) := by decide +kernel
theorem dX5_read_96 : decode mX5_read.2.2.1 96 = .ok (.iconst 1, 1) := by decide +kernel
theorem dX5_read_97 : decode mX5_read.2.2.1 97 = .ok (.ireturn, 1) := by decide +kernel
theorem dX5_numbersOf_0 : decode mX5_numbersOf.2.2.1 0 = .ok (.iload_n 1, 1) := by decide +kernel
theorem dX5_numbersOf_1 : decode mX5_numbersOf.2.2.1 1 = .ok (.lookupswitch 61 #[(98, 59), (108, 53), (109, 57), (115, 51), (116, 55)], 51) := by decide +kernel
theorem dX5_numbersOf_52 : decode mX5_numbersOf.2.2.1 52 = .ok (.iconst 4, 1) := by decide +kernel
theorem dX5_numbersOf_53 : decode mX5_numbersOf.2.2.1 53 = .ok (.ireturn, 1) := by decide +kernel
theorem dX5_numbersOf_54 : decode mX5_numbersOf.2.2.1 54 = .ok (.iconst 2, 1) := by decide +kernel
theorem dX5_numbersOf_55 : decode mX5_numbersOf.2.2.1 55 = .ok (.ireturn, 1) := by decide +kernel
theorem dX5_numbersOf_56 : decode mX5_numbersOf.2.2.1 56 = .ok (.iconst 2, 1) := by decide +kernel
theorem dX5_numbersOf_57 : decode mX5_numbersOf.2.2.1 57 = .ok (.ireturn, 1) := by decide +kernel
theorem dX5_numbersOf_58 : decode mX5_numbersOf.2.2.1 58 = .ok (.iconst 1, 1) := by decide +kernel
theorem dX5_numbersOf_59 : decode mX5_numbersOf.2.2.1 59 = .ok (.ireturn, 1) := by decide +kernel
theorem dX5_numbersOf_60 : decode mX5_numbersOf.2.2.1 60 = .ok (.iconst 1, 1) := by decide +kernel
theorem dX5_numbersOf_61 : decode mX5_numbersOf.2.2.1 61 = .ok (.ireturn, 1) := by decide +kernel
theorem dX5_numbersOf_62 : decode mX5_numbersOf.2.2.1 62 = .ok (.iconst 0, 1) := by decide +kernel
theorem dX5_numbersOf_63 : decode mX5_numbersOf.2.2.1 63 = .ok (.ireturn, 1) := by decide +kernel
theorem dX5_readNumber_0 : decode mX5_readNumber.2.2.1 0 = .ok (.iconst 0, 1) := by decide +kernel
theorem dX5_readNumber_1 : decode mX5_readNumber.2.2.1 1 = .ok (.istore_n 2, 1) := by decide +kernel
theorem dX5_readNumber_2 : decode mX5_readNumber.2.2.1 2 = .ok (.iconst 0, 1) := by decide +kernel
theorem dX5_readNumber_3 : decode mX5_readNumber.2.2.1 3 = .ok (.istore_n 3, 1) := by decide +kernel
theorem dX5_readNumber_4 : decode mX5_readNumber.2.2.1 4 = .ok (.iload_n 3, 1) := by decide +kernel
theorem dX5_readNumber_5 : decode mX5_readNumber.2.2.1 5 = .ok (.iconst 3, 1) := by decide +kernel
theorem dX5_readNumber_6 : decode mX5_readNumber.2.2.1 6 = .ok (.if_icmp .ge 46, 3) := by decide +kernel
theorem dX5_readNumber_9 : decode mX5_readNumber.2.2.1 9 = .ok (.aload_n 0, 1) := by decide +kernel
theorem dX5_readNumber_10 : decode mX5_readNumber.2.2.1 10 = .ok (.invokevirtual 31, 3) := by decide +kernel
theorem dX5_readNumber_13 : decode mX5_readNumber.2.2.1 13 = .ok (.bipush 48, 2) := by decide +kernel
theorem dX5_readNumber_15 : decode mX5_readNumber.2.2.1 15 = .ok (.bipush 57, 2) := by decide +kernel
theorem dX5_readNumber_17 : decode mX5_readNumber.2.2.1 17 = .ok (.invokestatic 18, 3) := by decide +kernel
theorem dX5_readNumber_20 : decode mX5_readNumber.2.2.1 20 = .ok (.ifCond .eq 32, 3) := by decide +kernel
theorem dX5_readNumber_23 : decode mX5_readNumber.2.2.1 23 = .ok (.iload_n 2, 1) := by decide +kernel
theorem dX5_readNumber_24 : decode mX5_readNumber.2.2.1 24 = .ok (.bipush 10, 2) := by decide +kernel
theorem dX5_readNumber_26 : decode mX5_readNumber.2.2.1 26 = .ok (.imul, 1) := by decide +kernel
theorem dX5_readNumber_27 : decode mX5_readNumber.2.2.1 27 = .ok (.aload_n 0, 1) := by decide +kernel
theorem dX5_readNumber_28 : decode mX5_readNumber.2.2.1 28 = .ok (.invokevirtual 31, 3) := by decide +kernel
theorem dX5_readNumber_31 : decode mX5_readNumber.2.2.1 31 = .ok (.bipush 48, 2) := by decide +kernel
theorem dX5_readNumber_33 : decode mX5_readNumber.2.2.1 33 = .ok (.isub, 1) := by decide +kernel
theorem dX5_readNumber_34 : decode mX5_readNumber.2.2.1 34 = .ok (.iadd, 1) := by decide +kernel
theorem dX5_readNumber_35 : decode mX5_readNumber.2.2.1 35 = .ok (.istore_n 2, 1) := by decide +kernel
theorem dX5_readNumber_36 : decode mX5_readNumber.2.2.1 36 = .ok (.aload_n 0, 1) := by decide +kernel
theorem dX5_readNumber_37 : decode mX5_readNumber.2.2.1 37 = .ok (.dup, 1) := by decide +kernel
theorem dX5_readNumber_38 : decode mX5_readNumber.2.2.1 38 = .ok (.getfield 28, 3) := by decide +kernel
theorem dX5_readNumber_41 : decode mX5_readNumber.2.2.1 41 = .ok (.iconst 1, 1) := by decide +kernel
theorem dX5_readNumber_42 : decode mX5_readNumber.2.2.1 42 = .ok (.iadd, 1) := by decide +kernel
theorem dX5_readNumber_43 : decode mX5_readNumber.2.2.1 43 = .ok (.putfield 28, 3) := by decide +kernel
theorem dX5_readNumber_46 : decode mX5_readNumber.2.2.1 46 = .ok (.iinc 3 1, 3) := by decide +kernel
theorem dX5_readNumber_49 : decode mX5_readNumber.2.2.1 49 = .ok (.goto (-45), 3) := by decide +kernel
theorem dX5_readNumber_52 : decode mX5_readNumber.2.2.1 52 = .ok (.iload_n 1, 1) := by decide +kernel
theorem dX5_readNumber_53 : decode mX5_readNumber.2.2.1 53 = .ok (.ifCond .lt 19, 3) := by decide +kernel
theorem dX5_readNumber_56 : decode mX5_readNumber.2.2.1 56 = .ok (.iload_n 1, 1) := by decide +kernel
theorem dX5_readNumber_57 : decode mX5_readNumber.2.2.1 57 = .ok (.aload_n 0, 1) := by decide +kernel
theorem dX5_readNumber_58 : decode mX5_readNumber.2.2.1 58 = .ok (.getfield 15, 3) := by decide +kernel
theorem dX5_readNumber_61 : decode mX5_readNumber.2.2.1 61 = .ok (.arraylength, 1) := by decide +kernel
theorem dX5_readNumber_62 : decode mX5_readNumber.2.2.1 62 = .ok (.if_icmp .ge 10, 3) := by decide +kernel
theorem dX5_readNumber_65 : decode mX5_readNumber.2.2.1 65 = .ok (.aload_n 0, 1) := by decide +kernel
theorem dX5_readNumber_66 : decode mX5_readNumber.2.2.1 66 = .ok (.getfield 15, 3) := by decide +kernel
theorem dX5_readNumber_69 : decode mX5_readNumber.2.2.1 69 = .ok (.iload_n 1, 1) := by decide +kernel
theorem dX5_readNumber_70 : decode mX5_readNumber.2.2.1 70 = .ok (.iload_n 2, 1) := by decide +kernel
theorem dX5_readNumber_71 : decode mX5_readNumber.2.2.1 71 = .ok (.iastore, 1) := by decide +kernel
theorem dX5_readNumber_72 : decode mX5_readNumber.2.2.1 72 = .ok (.iload_n 3, 1) := by decide +kernel
theorem dX5_readNumber_73 : decode mX5_readNumber.2.2.1 73 = .ok (.ifCond .le 7, 3) := by decide +kernel
theorem dX5_readNumber_76 : decode mX5_readNumber.2.2.1 76 = .ok (.iconst 1, 1) := by decide +kernel
theorem dX5_readNumber_77 : decode mX5_readNumber.2.2.1 77 = .ok (.goto 4, 3) := by decide +kernel
theorem dX5_readNumber_80 : decode mX5_readNumber.2.2.1 80 = .ok (.iconst 0, 1) := by decide +kernel
theorem dX5_readNumber_81 : decode mX5_readNumber.2.2.1 81 = .ok (.ireturn, 1) := by decide +kernel
theorem dX6_init_0 : decode mX6_init.2.2.1 0 = .ok (.aload_n 0, 1) := by decide +kernel
theorem dX6_init_1 : decode mX6_init.2.2.1 1 = .ok (.invokespecial 3, 3) := by decide +kernel
theorem dX6_init_4 : decode mX6_init.2.2.1 4 = .ok (.aload_n 0, 1) := by decide +kernel
theorem dX6_init_5 : decode mX6_init.2.2.1 5 = .ok (.new 9, 3) := by decide +kernel
theorem dX6_init_8 : decode mX6_init.2.2.1 8 = .ok (.dup, 1) := by decide +kernel
theorem dX6_init_9 : decode mX6_init.2.2.1 9 = .ok (.invokespecial 11, 3) := by decide +kernel
theorem dX6_init_12 : decode mX6_init.2.2.1 12 = .ok (.putfield 12, 3) := by decide +kernel
theorem dX6_init_15 : decode mX6_init.2.2.1 15 = .ok (.return_, 1) := by decide +kernel
theorem dX6_run_0 : decode mX6_run.2.2.1 0 = .ok (.aload_n 0, 1) := by decide +kernel
theorem dX6_run_1 : decode mX6_run.2.2.1 1 = .ok (.getfield 12, 3) := by decide +kernel
theorem dX6_run_4 : decode mX6_run.2.2.1 4 = .ok (.aload_n 2, 1) := by decide +kernel
theorem dX6_run_5 : decode mX6_run.2.2.1 5 = .ok (.invokevirtual 18, 3) := by decide +kernel
theorem dX6_run_8 : decode mX6_run.2.2.1 8 = .ok (.aload_n 0, 1) := by decide +kernel
theorem dX6_run_9 : decode mX6_run.2.2.1 9 = .ok (.iconst 0, 1) := by decide +kernel
theorem dX6_run_10 : decode mX6_run.2.2.1 10 = .ok (.putfield 22, 3) := by decide +kernel
theorem dX6_run_13 : decode mX6_run.2.2.1 13 = .ok (.aload_n 0, 1) := by decide +kernel
theorem dX6_run_14 : decode mX6_run.2.2.1 14 = .ok (.iconst 0, 1) := by decide +kernel
theorem dX6_run_15 : decode mX6_run.2.2.1 15 = .ok (.putfield 26, 3) := by decide +kernel
theorem dX6_run_18 : decode mX6_run.2.2.1 18 = .ok (.iconst 0, 1) := by decide +kernel
theorem dX6_run_19 : decode mX6_run.2.2.1 19 = .ok (.istore_n 3, 1) := by decide +kernel
theorem dX6_run_20 : decode mX6_run.2.2.1 20 = .ok (.iconst 0, 1) := by decide +kernel
theorem dX6_run_21 : decode mX6_run.2.2.1 21 = .ok (.istore 4, 2) := by decide +kernel
theorem dX6_run_23 : decode mX6_run.2.2.1 23 = .ok (.iload 4, 2) := by decide +kernel
theorem dX6_run_25 : decode mX6_run.2.2.1 25 = .ok (.bipush 60, 2) := by decide +kernel
theorem dX6_run_27 : decode mX6_run.2.2.1 27 = .ok (.if_icmp .ge 98, 3) := by decide +kernel
theorem dX6_run_30 : decode mX6_run.2.2.1 30 = .ok (.iload_n 3, 1) := by decide +kernel
theorem dX6_run_31 : decode mX6_run.2.2.1 31 = .ok (.aload_n 1, 1) := by decide +kernel
theorem dX6_run_32 : decode mX6_run.2.2.1 32 = .ok (.getfield 29, 3) := by decide +kernel
theorem dX6_run_35 : decode mX6_run.2.2.1 35 = .ok (.if_icmp .ge 90, 3) := by decide +kernel
theorem dX6_run_38 : decode mX6_run.2.2.1 38 = .ok (.aload_n 0, 1) := by decide +kernel
theorem dX6_run_39 : decode mX6_run.2.2.1 39 = .ok (.getfield 26, 3) := by decide +kernel
theorem dX6_run_42 : decode mX6_run.2.2.1 42 = .ok (.ifCond .ne 83, 3) := by decide +kernel
theorem dX6_run_45 : decode mX6_run.2.2.1 45 = .ok (.aload_n 1, 1) := by decide +kernel
theorem dX6_run_46 : decode mX6_run.2.2.1 46 = .ok (.iload_n 3, 1) := by decide +kernel
theorem dX6_run_47 : decode mX6_run.2.2.1 47 = .ok (.invokevirtual 34, 3) := by decide +kernel
theorem dX6_run_50 : decode mX6_run.2.2.1 50 = .ok (.istore 5, 2) := by decide +kernel
theorem dX6_run_52 : decode mX6_run.2.2.1 52 = .ok (.iload 5, 2) := by decide +kernel
theorem dX6_run_54 : decode mX6_run.2.2.1 54 = .ok (.ifCond .eq 11, 3) := by decide +kernel
theorem dX6_run_57 : decode mX6_run.2.2.1 57 = .ok (.aload_n 0, 1) := by decide +kernel
theorem dX6_run_58 : decode mX6_run.2.2.1 58 = .ok (.aload_n 1, 1) := by decide +kernel
theorem dX6_run_59 : decode mX6_run.2.2.1 59 = .ok (.invokevirtual 38, 3) := by decide +kernel
theorem dX6_run_62 : decode mX6_run.2.2.1 62 = .ok (.goto 4, 3) := by decide +kernel
theorem dX6_run_65 : decode mX6_run.2.2.1 65 = .ok (.iconst 0, 1) := by decide +kernel
theorem dX6_run_66 : decode mX6_run.2.2.1 66 = .ok (.istore 6, 2) := by decide +kernel
theorem dX6_run_68 : decode mX6_run.2.2.1 68 = .ok (.iload 5, 2) := by decide +kernel
theorem dX6_run_70 : decode mX6_run.2.2.1 70 = .ok (.ifCond .ne 18, 3) := by decide +kernel
theorem dX6_run_73 : decode mX6_run.2.2.1 73 = .ok (.aload_n 0, 1) := by decide +kernel
theorem dX6_run_74 : decode mX6_run.2.2.1 74 = .ok (.iload_n 3, 1) := by decide +kernel
theorem dX6_run_75 : decode mX6_run.2.2.1 75 = .ok (.iconst 1, 1) := by decide +kernel
theorem dX6_run_76 : decode mX6_run.2.2.1 76 = .ok (.aload_n 1, 1) := by decide +kernel
theorem dX6_run_77 : decode mX6_run.2.2.1 77 = .ok (.getfield 42, 3) := by decide +kernel
theorem dX6_run_80 : decode mX6_run.2.2.1 80 = .ok (.iload_n 3, 1) := by decide +kernel
theorem dX6_run_81 : decode mX6_run.2.2.1 81 = .ok (.isub, 1) := by decide +kernel
theorem dX6_run_82 : decode mX6_run.2.2.1 82 = .ok (.invokevirtual 45, 3) := by decide +kernel
theorem dX6_run_85 : decode mX6_run.2.2.1 85 = .ok (.goto 29, 3) := by decide +kernel
theorem dX6_run_88 : decode mX6_run.2.2.1 88 = .ok (.iload 6, 2) := by decide +kernel
theorem dX6_run_90 : decode mX6_run.2.2.1 90 = .ok (.ifCond .ge 14, 3) := by decide +kernel
theorem dX6_run_93 : decode mX6_run.2.2.1 93 = .ok (.aload_n 0, 1) := by decide +kernel
theorem dX6_run_94 : decode mX6_run.2.2.1 94 = .ok (.iload_n 3, 1) := by decide +kernel
theorem dX6_run_95 : decode mX6_run.2.2.1 95 = .ok (.iconst 2, 1) := by decide +kernel
theorem dX6_run_96 : decode mX6_run.2.2.1 96 = .ok (.iload 6, 2) := by decide +kernel
theorem dX6_run_98 : decode mX6_run.2.2.1 98 = .ok (.invokevirtual 45, 3) := by decide +kernel
theorem dX6_run_101 : decode mX6_run.2.2.1 101 = .ok (.goto 13, 3) := by decide +kernel
theorem dX6_run_104 : decode mX6_run.2.2.1 104 = .ok (.aload_n 0, 1) := by decide +kernel
theorem dX6_run_105 : decode mX6_run.2.2.1 105 = .ok (.dup, 1) := by decide +kernel
theorem dX6_run_106 : decode mX6_run.2.2.1 106 = .ok (.getfield 22, 3) := by decide +kernel
theorem dX6_run_109 : decode mX6_run.2.2.1 109 = .ok (.iconst 1, 1) := by decide +kernel
theorem dX6_run_110 : decode mX6_run.2.2.1 110 = .ok (.iadd, 1) := by decide +kernel
theorem dX6_run_111 : decode mX6_run.2.2.1 111 = .ok (.putfield 22, 3) := by decide +kernel
theorem dX6_run_114 : decode mX6_run.2.2.1 114 = .ok (.aload_n 1, 1) := by decide +kernel
theorem dX6_run_115 : decode mX6_run.2.2.1 115 = .ok (.getfield 42, 3) := by decide +kernel
theorem dX6_run_118 : decode mX6_run.2.2.1 118 = .ok (.istore_n 3, 1) := by decide +kernel
theorem dX6_run_119 : decode mX6_run.2.2.1 119 = .ok (.iinc 4 1, 3) := by decide +kernel
theorem dX6_run_122 : decode mX6_run.2.2.1 122 = .ok (.goto (-99), 3) := by decide +kernel
theorem dX6_run_125 : decode mX6_run.2.2.1 125 = .ok (.return_, 1) := by decide +kernel
theorem dX6_answerOf_0 : decode mX6_answerOf.2.2.1 0 = .ok (.aload_n 1, 1) := by decide +kernel
theorem dX6_answerOf_1 : decode mX6_answerOf.2.2.1 1 = .ok (.iconst 0, 1) := by decide +kernel
theorem dX6_answerOf_2 : decode mX6_answerOf.2.2.1 2 = .ok (.invokevirtual 49, 3) := by decide +kernel
theorem dX6_answerOf_5 : decode mX6_answerOf.2.2.1 5 = .ok (.istore_n 2, 1) := by decide +kernel
theorem dX6_answerOf_6 : decode mX6_answerOf.2.2.1 6 = .ok (.aload_n 1, 1) := by decide +kernel
theorem dX6_answerOf_7 : decode mX6_answerOf.2.2.1 7 = .ok (.iconst 1, 1) := by decide +kernel
theorem dX6_answerOf_8 : decode mX6_answerOf.2.2.1 8 = .ok (.invokevirtual 49, 3) := by decide +kernel
theorem dX6_answerOf_11 : decode mX6_answerOf.2.2.1 11 = .ok (.istore_n 3, 1) := by decide +kernel
theorem dX6_answerOf_12 : decode mX6_answerOf.2.2.1 12 = .ok (.aload_n 1, 1) := by decide +kernel
theorem dX6_answerOf_13 : decode mX6_answerOf.2.2.1 13 = .ok (.getfield 53, 3) := by decide +kernel
theorem dX6_answerOf_16 : decode mX6_answerOf.2.2.1 16 = .ok (.tableswitch 101 108 116 #[52, 92, 101, 101, 101, 101, 101, 62, 82], 52) := by decide +kernel
theorem dX6_answerOf_68 : decode mX6_answerOf.2.2.1 68 = .ok (.aload_n 0, 1) := by decide +kernel
theorem dX6_answerOf_69 : decode mX6_answerOf.2.2.1 69 = .ok (.getfield 12, 3) := by decide +kernel
theorem dX6_answerOf_72 : decode mX6_answerOf.2.2.1 72 = .ok (.iload_n 2, 1) := by decide +kernel
theorem dX6_answerOf_73 : decode mX6_answerOf.2.2.1 73 = .ok (.iload_n 3, 1) := by decide +kernel
theorem dX6_answerOf_74 : decode mX6_answerOf.2.2.1 74 = .ok (.invokevirtual 56, 3) := by decide +kernel
theorem dX6_answerOf_77 : decode mX6_answerOf.2.2.1 77 = .ok (.ireturn, 1) := by decide +kernel
theorem dX6_answerOf_78 : decode mX6_answerOf.2.2.1 78 = .ok (.aload_n 0, 1) := by decide +kernel
theorem dX6_answerOf_79 : decode mX6_answerOf.2.2.1 79 = .ok (.getfield 12, 3) := by decide +kernel
theorem dX6_answerOf_82 : decode mX6_answerOf.2.2.1 82 = .ok (.iload_n 2, 1) := by decide +kernel
theorem dX6_answerOf_83 : decode mX6_answerOf.2.2.1 83 = .ok (.iload_n 3, 1) := by decide +kernel
theorem dX6_answerOf_84 : decode mX6_answerOf.2.2.1 84 = .ok (.aload_n 1, 1) := by decide +kernel
theorem dX6_answerOf_85 : decode mX6_answerOf.2.2.1 85 = .ok (.iconst 2, 1) := by decide +kernel
theorem dX6_answerOf_86 : decode mX6_answerOf.2.2.1 86 = .ok (.invokevirtual 49, 3) := by decide +kernel
theorem dX6_answerOf_89 : decode mX6_answerOf.2.2.1 89 = .ok (.aload_n 1, 1) := by decide +kernel
theorem dX6_answerOf_90 : decode mX6_answerOf.2.2.1 90 = .ok (.iconst 3, 1) := by decide +kernel
theorem dX6_answerOf_91 : decode mX6_answerOf.2.2.1 91 = .ok (.invokevirtual 49, 3) := by decide +kernel
theorem dX6_answerOf_94 : decode mX6_answerOf.2.2.1 94 = .ok (.invokevirtual 60, 3) := by decide +kernel
theorem dX6_answerOf_97 : decode mX6_answerOf.2.2.1 97 = .ok (.ireturn, 1) := by decide +kernel
theorem dX6_answerOf_98 : decode mX6_answerOf.2.2.1 98 = .ok (.aload_n 0, 1) := by decide +kernel
theorem dX6_answerOf_99 : decode mX6_answerOf.2.2.1 99 = .ok (.getfield 12, 3) := by decide +kernel
theorem dX6_answerOf_102 : decode mX6_answerOf.2.2.1 102 = .ok (.iload_n 2, 1) := by decide +kernel
theorem dX6_answerOf_103 : decode mX6_answerOf.2.2.1 103 = .ok (.iload_n 3, 1) := by decide +kernel
theorem dX6_answerOf_104 : decode mX6_answerOf.2.2.1 104 = .ok (.invokevirtual 64, 3) := by decide +kernel
theorem dX6_answerOf_107 : decode mX6_answerOf.2.2.1 107 = .ok (.ireturn, 1) := by decide +kernel
theorem dX6_answerOf_108 : decode mX6_answerOf.2.2.1 108 = .ok (.aload_n 0, 1) := by decide +kernel
theorem dX6_answerOf_109 : decode mX6_answerOf.2.2.1 109 = .ok (.getfield 12, 3) := by decide +kernel
theorem dX6_answerOf_112 : decode mX6_answerOf.2.2.1 112 = .ok (.iload_n 2, 1) := by decide +kernel
theorem dX6_answerOf_113 : decode mX6_answerOf.2.2.1 113 = .ok (.invokevirtual 67, 3) := by decide +kernel
theorem dX6_answerOf_116 : decode mX6_answerOf.2.2.1 116 = .ok (.ireturn, 1) := by decide +kernel
theorem dX6_answerOf_117 : decode mX6_answerOf.2.2.1 117 = .ok (.aload_n 0, 1) := by decide +kernel
theorem dX6_answerOf_118 : decode mX6_answerOf.2.2.1 118 = .ok (.getfield 12, 3) := by decide +kernel
theorem dX6_answerOf_121 : decode mX6_answerOf.2.2.1 121 = .ok (.iload_n 2, 1) := by decide +kernel
theorem dX6_answerOf_122 : decode mX6_answerOf.2.2.1 122 = .ok (.invokevirtual 70, 3) := by decide +kernel
theorem dX6_answerOf_125 : decode mX6_answerOf.2.2.1 125 = .ok (.ireturn, 1) := by decide +kernel
theorem dX6_blame_0 : decode mX6_blame.2.2.1 0 = .ok (.aload_n 0, 1) := by decide +kernel
theorem dX6_blame_1 : decode mX6_blame.2.2.1 1 = .ok (.iload_n 1, 1) := by decide +kernel
theorem dX6_blame_2 : decode mX6_blame.2.2.1 2 = .ok (.putfield 73, 3) := by decide +kernel
theorem dX6_blame_5 : decode mX6_blame.2.2.1 5 = .ok (.aload_n 0, 1) := by decide +kernel
theorem dX6_blame_6 : decode mX6_blame.2.2.1 6 = .ok (.iload_n 2, 1) := by decide +kernel
theorem dX6_blame_7 : decode mX6_blame.2.2.1 7 = .ok (.putfield 26, 3) := by decide +kernel
theorem dX6_blame_10 : decode mX6_blame.2.2.1 10 = .ok (.aload_n 0, 1) := by decide +kernel
theorem dX6_blame_11 : decode mX6_blame.2.2.1 11 = .ok (.iload_n 3, 1) := by decide +kernel
theorem dX6_blame_12 : decode mX6_blame.2.2.1 12 = .ok (.putfield 76, 3) := by decide +kernel
theorem dX6_blame_15 : decode mX6_blame.2.2.1 15 = .ok (.return_, 1) := by decide +kernel
theorem dX7_init_0 : decode mX7_init.2.2.1 0 = .ok (.aload_n 0, 1) := by decide +kernel
theorem dX7_init_1 : decode mX7_init.2.2.1 1 = .ok (.invokespecial 1, 3) := by decide +kernel
theorem dX7_init_4 : decode mX7_init.2.2.1 4 = .ok (.aload_n 0, 1) := by decide +kernel
theorem dX7_init_5 : decode mX7_init.2.2.1 5 = .ok (.new 7, 3) := by decide +kernel
theorem dX7_init_8 : decode mX7_init.2.2.1 8 = .ok (.dup, 1) := by decide +kernel
theorem dX7_init_9 : decode mX7_init.2.2.1 9 = .ok (.invokespecial 9, 3) := by decide +kernel
theorem dX7_init_12 : decode mX7_init.2.2.1 12 = .ok (.putfield 10, 3) := by decide +kernel
theorem dX7_init_15 : decode mX7_init.2.2.1 15 = .ok (.aload_n 0, 1) := by decide +kernel
theorem dX7_init_16 : decode mX7_init.2.2.1 16 = .ok (.new 16, 3) := by decide +kernel
theorem dX7_init_19 : decode mX7_init.2.2.1 19 = .ok (.dup, 1) := by decide +kernel
theorem dX7_init_20 : decode mX7_init.2.2.1 20 = .ok (.invokespecial 18, 3) := by decide +kernel
theorem dX7_init_23 : decode mX7_init.2.2.1 23 = .ok (.putfield 19, 3) := by decide +kernel
theorem dX7_init_26 : decode mX7_init.2.2.1 26 = .ok (.aload_n 0, 1) := by decide +kernel
theorem dX7_init_27 : decode mX7_init.2.2.1 27 = .ok (.new 23, 3) := by decide +kernel
theorem dX7_init_30 : decode mX7_init.2.2.1 30 = .ok (.dup, 1) := by decide +kernel
theorem dX7_init_31 : decode mX7_init.2.2.1 31 = .ok (.invokespecial 25, 3) := by decide +kernel
theorem dX7_init_34 : decode mX7_init.2.2.1 34 = .ok (.putfield 26, 3) := by decide +kernel
theorem dX7_init_37 : decode mX7_init.2.2.1 37 = .ok (.aload_n 0, 1) := by decide +kernel
theorem dX7_init_38 : decode mX7_init.2.2.1 38 = .ok (.new 30, 3) := by decide +kernel
theorem dX7_init_41 : decode mX7_init.2.2.1 41 = .ok (.dup, 1) := by decide +kernel
theorem dX7_init_42 : decode mX7_init.2.2.1 42 = .ok (.invokespecial 32, 3) := by decide +kernel
theorem dX7_init_45 : decode mX7_init.2.2.1 45 = .ok (.putfield 33, 3) := by decide +kernel
theorem dX7_init_48 : decode mX7_init.2.2.1 48 = .ok (.return_, 1) := by decide +kernel
theorem dX7_lot_0 : decode mX7_lot.2.2.1 0 = .ok (.aload_n 0, 1) := by decide +kernel
theorem dX7_lot_1 : decode mX7_lot.2.2.1 1 = .ok (.getfield 19, 3) := by decide +kernel
theorem dX7_lot_4 : decode mX7_lot.2.2.1 4 = .ok (.aload_n 0, 1) := by decide +kernel
theorem dX7_lot_5 : decode mX7_lot.2.2.1 5 = .ok (.getfield 10, 3) := by decide +kernel
theorem dX7_lot_8 : decode mX7_lot.2.2.1 8 = .ok (.invokevirtual 37, 3) := by decide +kernel
theorem dX7_lot_11 : decode mX7_lot.2.2.1 11 = .ok (.aload_n 0, 1) := by decide +kernel
theorem dX7_lot_12 : decode mX7_lot.2.2.1 12 = .ok (.aload_n 0, 1) := by decide +kernel
theorem dX7_lot_13 : decode mX7_lot.2.2.1 13 = .ok (.getfield 10, 3) := by decide +kernel
theorem dX7_lot_16 : decode mX7_lot.2.2.1 16 = .ok (.iload_n 1, 1) := by decide +kernel
theorem dX7_lot_17 : decode mX7_lot.2.2.1 17 = .ok (.iload_n 2, 1) := by decide +kernel
theorem dX7_lot_18 : decode mX7_lot.2.2.1 18 = .ok (.invokevirtual 41, 3) := by decide +kernel
theorem dX7_lot_21 : decode mX7_lot.2.2.1 21 = .ok (.invokevirtual 45, 3) := by decide +kernel
theorem dX7_lot_24 : decode mX7_lot.2.2.1 24 = .ok (.ireturn, 1) := by decide +kernel
theorem dX7_taste_0 : decode mX7_taste.2.2.1 0 = .ok (.aload_n 0, 1) := by decide +kernel
theorem dX7_taste_1 : decode mX7_taste.2.2.1 1 = .ok (.getfield 19, 3) := by decide +kernel
theorem dX7_taste_4 : decode mX7_taste.2.2.1 4 = .ok (.aload_n 0, 1) := by decide +kernel
theorem dX7_taste_5 : decode mX7_taste.2.2.1 5 = .ok (.getfield 10, 3) := by decide +kernel
theorem dX7_taste_8 : decode mX7_taste.2.2.1 8 = .ok (.invokevirtual 37, 3) := by decide +kernel
theorem dX7_taste_11 : decode mX7_taste.2.2.1 11 = .ok (.aload_n 0, 1) := by decide +kernel
theorem dX7_taste_12 : decode mX7_taste.2.2.1 12 = .ok (.aload_n 0, 1) := by decide +kernel
theorem dX7_taste_13 : decode mX7_taste.2.2.1 13 = .ok (.getfield 10, 3) := by decide +kernel
theorem dX7_taste_16 : decode mX7_taste.2.2.1 16 = .ok (.iload_n 1, 1) := by decide +kernel
theorem dX7_taste_17 : decode mX7_taste.2.2.1 17 = .ok (.iload_n 2, 1) := by decide +kernel
theorem dX7_taste_18 : decode mX7_taste.2.2.1 18 = .ok (.invokevirtual 49, 3) := by decide +kernel
theorem dX7_taste_21 : decode mX7_taste.2.2.1 21 = .ok (.invokevirtual 45, 3) := by decide +kernel
theorem dX7_taste_24 : decode mX7_taste.2.2.1 24 = .ok (.ireturn, 1) := by decide +kernel
theorem dX7_top_0 : decode mX7_top.2.2.1 0 = .ok (.aload_n 0, 1) := by decide +kernel
theorem dX7_top_1 : decode mX7_top.2.2.1 1 = .ok (.getfield 19, 3) := by decide +kernel
theorem dX7_top_4 : decode mX7_top.2.2.1 4 = .ok (.aload_n 0, 1) := by decide +kernel
theorem dX7_top_5 : decode mX7_top.2.2.1 5 = .ok (.getfield 10, 3) := by decide +kernel
theorem dX7_top_8 : decode mX7_top.2.2.1 8 = .ok (.invokevirtual 37, 3) := by decide +kernel
theorem dX7_top_11 : decode mX7_top.2.2.1 11 = .ok (.aload_n 0, 1) := by decide +kernel
theorem dX7_top_12 : decode mX7_top.2.2.1 12 = .ok (.aload_n 0, 1) := by decide +kernel
theorem dX7_top_13 : decode mX7_top.2.2.1 13 = .ok (.getfield 10, 3) := by decide +kernel
theorem dX7_top_16 : decode mX7_top.2.2.1 16 = .ok (.iload_n 1, 1) := by decide +kernel
theorem dX7_top_17 : decode mX7_top.2.2.1 17 = .ok (.invokevirtual 52, 3) := by decide +kernel
theorem dX7_top_20 : decode mX7_top.2.2.1 20 = .ok (.invokevirtual 45, 3) := by decide +kernel
theorem dX7_top_23 : decode mX7_top.2.2.1 23 = .ok (.ireturn, 1) := by decide +kernel
theorem dX7_pass_0 : decode mX7_pass.2.2.1 0 = .ok (.aload_n 0, 1) := by decide +kernel
theorem dX7_pass_1 : decode mX7_pass.2.2.1 1 = .ok (.getfield 19, 3) := by decide +kernel
theorem dX7_pass_4 : decode mX7_pass.2.2.1 4 = .ok (.aload_n 0, 1) := by decide +kernel
theorem dX7_pass_5 : decode mX7_pass.2.2.1 5 = .ok (.getfield 10, 3) := by decide +kernel
theorem dX7_pass_8 : decode mX7_pass.2.2.1 8 = .ok (.invokevirtual 37, 3) := by decide +kernel
theorem dX7_pass_11 : decode mX7_pass.2.2.1 11 = .ok (.aload_n 0, 1) := by decide +kernel
theorem dX7_pass_12 : decode mX7_pass.2.2.1 12 = .ok (.aload_n 0, 1) := by decide +kernel
theorem dX7_pass_13 : decode mX7_pass.2.2.1 13 = .ok (.getfield 10, 3) := by decide +kernel
theorem dX7_pass_16 : decode mX7_pass.2.2.1 16 = .ok (.iload_n 1, 1) := by decide +kernel
theorem dX7_pass_17 : decode mX7_pass.2.2.1 17 = .ok (.invokevirtual 55, 3) := by decide +kernel
theorem dX7_pass_20 : decode mX7_pass.2.2.1 20 = .ok (.invokevirtual 45, 3) := by decide +kernel
theorem dX7_pass_23 : decode mX7_pass.2.2.1 23 = .ok (.ireturn, 1) := by decide +kernel
theorem dX7_bottle_0 : decode mX7_bottle.2.2.1 0 = .ok (.aload_n 0, 1) := by decide +kernel
theorem dX7_bottle_1 : decode mX7_bottle.2.2.1 1 = .ok (.getfield 19, 3) := by decide +kernel
theorem dX7_bottle_4 : decode mX7_bottle.2.2.1 4 = .ok (.aload_n 0, 1) := by decide +kernel
theorem dX7_bottle_5 : decode mX7_bottle.2.2.1 5 = .ok (.getfield 10, 3) := by decide +kernel
theorem dX7_bottle_8 : decode mX7_bottle.2.2.1 8 = .ok (.invokevirtual 37, 3) := by decide +kernel
theorem dX7_bottle_11 : decode mX7_bottle.2.2.1 11 = .ok (.aload_n 0, 1) := by decide +kernel
theorem dX7_bottle_12 : decode mX7_bottle.2.2.1 12 = .ok (.aload_n 0, 1) := by decide +kernel
theorem dX7_bottle_13 : decode mX7_bottle.2.2.1 13 = .ok (.getfield 10, 3) := by decide +kernel
theorem dX7_bottle_16 : decode mX7_bottle.2.2.1 16 = .ok (.iload_n 1, 1) := by decide +kernel
theorem dX7_bottle_17 : decode mX7_bottle.2.2.1 17 = .ok (.invokevirtual 58, 3) := by decide +kernel
theorem dX7_bottle_20 : decode mX7_bottle.2.2.1 20 = .ok (.invokevirtual 45, 3) := by decide +kernel
theorem dX7_bottle_23 : decode mX7_bottle.2.2.1 23 = .ok (.ireturn, 1) := by decide +kernel
theorem dX7_buyer_0 : decode mX7_buyer.2.2.1 0 = .ok (.aload_n 0, 1) := by decide +kernel
theorem dX7_buyer_1 : decode mX7_buyer.2.2.1 1 = .ok (.getfield 19, 3) := by decide +kernel
theorem dX7_buyer_4 : decode mX7_buyer.2.2.1 4 = .ok (.aload_n 0, 1) := by decide +kernel
theorem dX7_buyer_5 : decode mX7_buyer.2.2.1 5 = .ok (.getfield 10, 3) := by decide +kernel
theorem dX7_buyer_8 : decode mX7_buyer.2.2.1 8 = .ok (.invokevirtual 37, 3) := by decide +kernel
theorem dX7_buyer_11 : decode mX7_buyer.2.2.1 11 = .ok (.aload_n 0, 1) := by decide +kernel
theorem dX7_buyer_12 : decode mX7_buyer.2.2.1 12 = .ok (.aload_n 0, 1) := by decide +kernel
theorem dX7_buyer_13 : decode mX7_buyer.2.2.1 13 = .ok (.getfield 10, 3) := by decide +kernel
theorem dX7_buyer_16 : decode mX7_buyer.2.2.1 16 = .ok (.invokevirtual 61, 3) := by decide +kernel
theorem dX7_buyer_19 : decode mX7_buyer.2.2.1 19 = .ok (.invokevirtual 45, 3) := by decide +kernel
theorem dX7_buyer_22 : decode mX7_buyer.2.2.1 22 = .ok (.ireturn, 1) := by decide +kernel
theorem dX7_sell_0 : decode mX7_sell.2.2.1 0 = .ok (.aload_n 0, 1) := by decide +kernel
theorem dX7_sell_1 : decode mX7_sell.2.2.1 1 = .ok (.getfield 19, 3) := by decide +kernel
theorem dX7_sell_4 : decode mX7_sell.2.2.1 4 = .ok (.aload_n 0, 1) := by decide +kernel
theorem dX7_sell_5 : decode mX7_sell.2.2.1 5 = .ok (.getfield 10, 3) := by decide +kernel
theorem dX7_sell_8 : decode mX7_sell.2.2.1 8 = .ok (.invokevirtual 37, 3) := by decide +kernel
theorem dX7_sell_11 : decode mX7_sell.2.2.1 11 = .ok (.aload_n 0, 1) := by decide +kernel
theorem dX7_sell_12 : decode mX7_sell.2.2.1 12 = .ok (.aload_n 0, 1) := by decide +kernel
theorem dX7_sell_13 : decode mX7_sell.2.2.1 13 = .ok (.getfield 10, 3) := by decide +kernel
theorem dX7_sell_16 : decode mX7_sell.2.2.1 16 = .ok (.iload_n 1, 1) := by decide +kernel
theorem dX7_sell_17 : decode mX7_sell.2.2.1 17 = .ok (.iload_n 2, 1) := by decide +kernel
theorem dX7_sell_18 : decode mX7_sell.2.2.1 18 = .ok (.iload_n 3, 1) := by decide +kernel
theorem dX7_sell_19 : decode mX7_sell.2.2.1 19 = .ok (.iload 4, 2) := by decide +kernel
theorem dX7_sell_21 : decode mX7_sell.2.2.1 21 = .ok (.invokevirtual 65, 3) := by decide +kernel
theorem dX7_sell_24 : decode mX7_sell.2.2.1 24 = .ok (.invokevirtual 45, 3) := by decide +kernel
theorem dX7_sell_27 : decode mX7_sell.2.2.1 27 = .ok (.ireturn, 1) := by decide +kernel
theorem dX7_trade_0 : decode mX7_trade.2.2.1 0 = .ok (.aload_n 0, 1) := by decide +kernel
theorem dX7_trade_1 : decode mX7_trade.2.2.1 1 = .ok (.getfield 19, 3) := by decide +kernel
theorem dX7_trade_4 : decode mX7_trade.2.2.1 4 = .ok (.aload_n 0, 1) := by decide +kernel
theorem dX7_trade_5 : decode mX7_trade.2.2.1 5 = .ok (.getfield 10, 3) := by decide +kernel
theorem dX7_trade_8 : decode mX7_trade.2.2.1 8 = .ok (.invokevirtual 37, 3) := by decide +kernel
theorem dX7_trade_11 : decode mX7_trade.2.2.1 11 = .ok (.aload_n 0, 1) := by decide +kernel
theorem dX7_trade_12 : decode mX7_trade.2.2.1 12 = .ok (.aload_n 0, 1) := by decide +kernel
theorem dX7_trade_13 : decode mX7_trade.2.2.1 13 = .ok (.getfield 10, 3) := by decide +kernel
theorem dX7_trade_16 : decode mX7_trade.2.2.1 16 = .ok (.iload_n 1, 1) := by decide +kernel
theorem dX7_trade_17 : decode mX7_trade.2.2.1 17 = .ok (.iload_n 2, 1) := by decide +kernel
theorem dX7_trade_18 : decode mX7_trade.2.2.1 18 = .ok (.iload_n 3, 1) := by decide +kernel
theorem dX7_trade_19 : decode mX7_trade.2.2.1 19 = .ok (.iload 4, 2) := by decide +kernel
theorem dX7_trade_21 : decode mX7_trade.2.2.1 21 = .ok (.iload 5, 2) := by decide +kernel
theorem dX7_trade_23 : decode mX7_trade.2.2.1 23 = .ok (.invokevirtual 69, 3) := by decide +kernel
theorem dX7_trade_26 : decode mX7_trade.2.2.1 26 = .ok (.invokevirtual 45, 3) := by decide +kernel
theorem dX7_trade_29 : decode mX7_trade.2.2.1 29 = .ok (.ireturn, 1) := by decide +kernel
theorem dX7_redeem_0 : decode mX7_redeem.2.2.1 0 = .ok (.aload_n 0, 1) := by decide +kernel
theorem dX7_redeem_1 : decode mX7_redeem.2.2.1 1 = .ok (.getfield 19, 3) := by decide +kernel
theorem dX7_redeem_4 : decode mX7_redeem.2.2.1 4 = .ok (.aload_n 0, 1) := by decide +kernel
theorem dX7_redeem_5 : decode mX7_redeem.2.2.1 5 = .ok (.getfield 10, 3) := by decide +kernel
theorem dX7_redeem_8 : decode mX7_redeem.2.2.1 8 = .ok (.invokevirtual 37, 3) := by decide +kernel
theorem dX7_redeem_11 : decode mX7_redeem.2.2.1 11 = .ok (.aload_n 0, 1) := by decide +kernel
theorem dX7_redeem_12 : decode mX7_redeem.2.2.1 12 = .ok (.aload_n 0, 1) := by decide +kernel
theorem dX7_redeem_13 : decode mX7_redeem.2.2.1 13 = .ok (.getfield 10, 3) := by decide +kernel
theorem dX7_redeem_16 : decode mX7_redeem.2.2.1 16 = .ok (.iload_n 1, 1) := by decide +kernel
theorem dX7_redeem_17 : decode mX7_redeem.2.2.1 17 = .ok (.iload_n 2, 1) := by decide +kernel
theorem dX7_redeem_18 : decode mX7_redeem.2.2.1 18 = .ok (.iload_n 3, 1) := by decide +kernel
theorem dX7_redeem_19 : decode mX7_redeem.2.2.1 19 = .ok (.invokevirtual 73, 3) := by decide +kernel
theorem dX7_redeem_22 : decode mX7_redeem.2.2.1 22 = .ok (.invokevirtual 45, 3) := by decide +kernel
theorem dX7_redeem_25 : decode mX7_redeem.2.2.1 25 = .ok (.ireturn, 1) := by decide +kernel
theorem dX7_set_0 : decode mX7_set.2.2.1 0 = .ok (.aload_n 0, 1) := by decide +kernel
theorem dX7_set_1 : decode mX7_set.2.2.1 1 = .ok (.getfield 19, 3) := by decide +kernel
theorem dX7_set_4 : decode mX7_set.2.2.1 4 = .ok (.aload_n 0, 1) := by decide +kernel
theorem dX7_set_5 : decode mX7_set.2.2.1 5 = .ok (.getfield 10, 3) := by decide +kernel
theorem dX7_set_8 : decode mX7_set.2.2.1 8 = .ok (.invokevirtual 37, 3) := by decide +kernel
theorem dX7_set_11 : decode mX7_set.2.2.1 11 = .ok (.aload_n 0, 1) := by decide +kernel
theorem dX7_set_12 : decode mX7_set.2.2.1 12 = .ok (.aload_n 0, 1) := by decide +kernel
theorem dX7_set_13 : decode mX7_set.2.2.1 13 = .ok (.getfield 10, 3) := by decide +kernel
theorem dX7_set_16 : decode mX7_set.2.2.1 16 = .ok (.iload_n 1, 1) := by decide +kernel
theorem dX7_set_17 : decode mX7_set.2.2.1 17 = .ok (.iload_n 2, 1) := by decide +kernel
theorem dX7_set_18 : decode mX7_set.2.2.1 18 = .ok (.invokevirtual 77, 3) := by decide +kernel
theorem dX7_set_21 : decode mX7_set.2.2.1 21 = .ok (.invokevirtual 45, 3) := by decide +kernel
theorem dX7_set_24 : decode mX7_set.2.2.1 24 = .ok (.ireturn, 1) := by decide +kernel
theorem dX7_lotOf_0 : decode mX7_lotOf.2.2.1 0 = .ok (.aload_n 0, 1) := by decide +kernel
theorem dX7_lotOf_1 : decode mX7_lotOf.2.2.1 1 = .ok (.getfield 10, 3) := by decide +kernel
theorem dX7_lotOf_4 : decode mX7_lotOf.2.2.1 4 = .ok (.iload_n 1, 1) := by decide +kernel
theorem dX7_lotOf_5 : decode mX7_lotOf.2.2.1 5 = .ok (.iload_n 2, 1) := by decide +kernel
theorem dX7_lotOf_6 : decode mX7_lotOf.2.2.1 6 = .ok (.invokevirtual 80, 3) := by decide +kernel
theorem dX7_lotOf_9 : decode mX7_lotOf.2.2.1 9 = .ok (.ireturn, 1) := by decide +kernel
theorem dX7_barrel_0 : decode mX7_barrel.2.2.1 0 = .ok (.aload_n 0, 1) := by decide +kernel
theorem dX7_barrel_1 : decode mX7_barrel.2.2.1 1 = .ok (.getfield 10, 3) := by decide +kernel
theorem dX7_barrel_4 : decode mX7_barrel.2.2.1 4 = .ok (.iload_n 1, 1) := by decide +kernel
theorem dX7_barrel_5 : decode mX7_barrel.2.2.1 5 = .ok (.iload_n 2, 1) := by decide +kernel
theorem dX7_barrel_6 : decode mX7_barrel.2.2.1 6 = .ok (.invokevirtual 83, 3) := by decide +kernel
theorem dX7_barrel_9 : decode mX7_barrel.2.2.1 9 = .ok (.ireturn, 1) := by decide +kernel
theorem dX7_holding_0 : decode mX7_holding.2.2.1 0 = .ok (.aload_n 0, 1) := by decide +kernel
theorem dX7_holding_1 : decode mX7_holding.2.2.1 1 = .ok (.getfield 10, 3) := by decide +kernel
theorem dX7_holding_4 : decode mX7_holding.2.2.1 4 = .ok (.iload_n 1, 1) := by decide +kernel
theorem dX7_holding_5 : decode mX7_holding.2.2.1 5 = .ok (.iload_n 2, 1) := by decide +kernel
theorem dX7_holding_6 : decode mX7_holding.2.2.1 6 = .ok (.iload_n 3, 1) := by decide +kernel
theorem dX7_holding_7 : decode mX7_holding.2.2.1 7 = .ok (.invokevirtual 86, 3) := by decide +kernel
theorem dX7_holding_10 : decode mX7_holding.2.2.1 10 = .ok (.ireturn, 1) := by decide +kernel
theorem dX7_account_0 : decode mX7_account.2.2.1 0 = .ok (.aload_n 0, 1) := by decide +kernel
theorem dX7_account_1 : decode mX7_account.2.2.1 1 = .ok (.getfield 10, 3) := by decide +kernel
theorem dX7_account_4 : decode mX7_account.2.2.1 4 = .ok (.iload_n 1, 1) := by decide +kernel
theorem dX7_account_5 : decode mX7_account.2.2.1 5 = .ok (.invokevirtual 89, 3) := by decide +kernel
theorem dX7_account_8 : decode mX7_account.2.2.1 8 = .ok (.ireturn, 1) := by decide +kernel
theorem dX7_entry_0 : decode mX7_entry.2.2.1 0 = .ok (.aload_n 0, 1) := by decide +kernel
theorem dX7_entry_1 : decode mX7_entry.2.2.1 1 = .ok (.getfield 10, 3) := by decide +kernel
theorem dX7_entry_4 : decode mX7_entry.2.2.1 4 = .ok (.getfield 92, 3) := by decide +kernel
theorem dX7_entry_7 : decode mX7_entry.2.2.1 7 = .ok (.iload_n 1, 1) := by decide +kernel
theorem dX7_entry_8 : decode mX7_entry.2.2.1 8 = .ok (.iload_n 2, 1) := by decide +kernel
theorem dX7_entry_9 : decode mX7_entry.2.2.1 9 = .ok (.invokevirtual 96, 3) := by decide +kernel
theorem dX7_entry_12 : decode mX7_entry.2.2.1 12 = .ok (.ireturn, 1) := by decide +kernel
theorem dX7_cases_0 : decode mX7_cases.2.2.1 0 = .ok (.aload_n 0, 1) := by decide +kernel
theorem dX7_cases_1 : decode mX7_cases.2.2.1 1 = .ok (.getfield 10, 3) := by decide +kernel
theorem dX7_cases_4 : decode mX7_cases.2.2.1 4 = .ok (.iload_n 1, 1) := by decide +kernel
theorem dX7_cases_5 : decode mX7_cases.2.2.1 5 = .ok (.iload_n 2, 1) := by decide +kernel
theorem dX7_cases_6 : decode mX7_cases.2.2.1 6 = .ok (.invokevirtual 101, 3) := by decide +kernel
theorem dX7_cases_9 : decode mX7_cases.2.2.1 9 = .ok (.ireturn, 1) := by decide +kernel
theorem dX7_sellable_0 : decode mX7_sellable.2.2.1 0 = .ok (.aload_n 0, 1) := by decide +kernel
theorem dX7_sellable_1 : decode mX7_sellable.2.2.1 1 = .ok (.getfield 10, 3) := by decide +kernel
theorem dX7_sellable_4 : decode mX7_sellable.2.2.1 4 = .ok (.iload_n 1, 1) := by decide +kernel
theorem dX7_sellable_5 : decode mX7_sellable.2.2.1 5 = .ok (.invokevirtual 104, 3) := by decide +kernel
theorem dX7_sellable_8 : decode mX7_sellable.2.2.1 8 = .ok (.ireturn, 1) := by decide +kernel
theorem dX7_deadline_0 : decode mX7_deadline.2.2.1 0 = .ok (.aload_n 0, 1) := by decide +kernel
theorem dX7_deadline_1 : decode mX7_deadline.2.2.1 1 = .ok (.getfield 10, 3) := by decide +kernel
theorem dX7_deadline_4 : decode mX7_deadline.2.2.1 4 = .ok (.iload_n 1, 1) := by decide +kernel
theorem dX7_deadline_5 : decode mX7_deadline.2.2.1 5 = .ok (.invokevirtual 107, 3) := by decide +kernel
theorem dX7_deadline_8 : decode mX7_deadline.2.2.1 8 = .ok (.ireturn, 1) := by decide +kernel
theorem dX7_topping_0 : decode mX7_topping.2.2.1 0 = .ok (.aload_n 0, 1) := by decide +kernel
theorem dX7_topping_1 : decode mX7_topping.2.2.1 1 = .ok (.getfield 10, 3) := by decide +kernel
theorem dX7_topping_4 : decode mX7_topping.2.2.1 4 = .ok (.iload_n 1, 1) := by decide +kernel
theorem dX7_topping_5 : decode mX7_topping.2.2.1 5 = .ok (.invokevirtual 110, 3) := by decide +kernel
theorem dX7_topping_8 : decode mX7_topping.2.2.1 8 = .ok (.ireturn, 1) := by decide +kernel
theorem dX7_loser_0 : decode mX7_loser.2.2.1 0 = .ok (.aload_n 0, 1) := by decide +kernel
theorem dX7_loser_1 : decode mX7_loser.2.2.1 1 = .ok (.getfield 10, 3) := by decide +kernel
theorem dX7_loser_4 : decode mX7_loser.2.2.1 4 = .ok (.iload_n 1, 1) := by decide +kernel
theorem dX7_loser_5 : decode mX7_loser.2.2.1 5 = .ok (.iload_n 2, 1) := by decide +kernel
theorem dX7_loser_6 : decode mX7_loser.2.2.1 6 = .ok (.invokevirtual 113, 3) := by decide +kernel
theorem dX7_loser_9 : decode mX7_loser.2.2.1 9 = .ok (.ireturn, 1) := by decide +kernel
theorem dX7_count_0 : decode mX7_count.2.2.1 0 = .ok (.iload_n 1, 1) := by decide +kernel
theorem dX7_count_1 : decode mX7_count.2.2.1 1 = .ok (.lookupswitch 43 #[(10, 27), (11, 35)], 27) := by decide +kernel
theorem dX7_count_28 : decode mX7_count.2.2.1 28 = .ok (.aload_n 0, 1) := by decide +kernel
theorem dX7_count_29 : decode mX7_count.2.2.1 29 = .ok (.getfield 19, 3) := by decide +kernel
theorem dX7_count_32 : decode mX7_count.2.2.1 32 = .ok (.getfield 116, 3) := by decide +kernel
theorem dX7_count_35 : decode mX7_count.2.2.1 35 = .ok (.ireturn, 1) := by decide +kernel
theorem dX7_count_36 : decode mX7_count.2.2.1 36 = .ok (.aload_n 0, 1) := by decide +kernel
theorem dX7_count_37 : decode mX7_count.2.2.1 37 = .ok (.getfield 26, 3) := by decide +kernel
theorem dX7_count_40 : decode mX7_count.2.2.1 40 = .ok (.getfield 120, 3) := by decide +kernel
theorem dX7_count_43 : decode mX7_count.2.2.1 43 = .ok (.ireturn, 1) := by decide +kernel
theorem dX7_count_44 : decode mX7_count.2.2.1 44 = .ok (.aload_n 0, 1) := by decide +kernel
theorem dX7_count_45 : decode mX7_count.2.2.1 45 = .ok (.getfield 10, 3) := by decide +kernel
theorem dX7_count_48 : decode mX7_count.2.2.1 48 = .ok (.iload_n 1, 1) := by decide +kernel
theorem dX7_count_49 : decode mX7_count.2.2.1 49 = .ok (.invokevirtual 123, 3) := by decide +kernel
theorem dX7_count_52 : decode mX7_count.2.2.1 52 = .ok (.ireturn, 1) := by decide +kernel
theorem dX7_undo_0 : decode mX7_undo.2.2.1 0 = .ok (.aload_n 0, 1) := by decide +kernel
theorem dX7_undo_1 : decode mX7_undo.2.2.1 1 = .ok (.getfield 19, 3) := by decide +kernel
theorem dX7_undo_4 : decode mX7_undo.2.2.1 4 = .ok (.aload_n 0, 1) := by decide +kernel
theorem dX7_undo_5 : decode mX7_undo.2.2.1 5 = .ok (.getfield 10, 3) := by decide +kernel
theorem dX7_undo_8 : decode mX7_undo.2.2.1 8 = .ok (.invokevirtual 126, 3) := by decide +kernel
theorem dX7_undo_11 : decode mX7_undo.2.2.1 11 = .ok (.ireturn, 1) := by decide +kernel
theorem dX7_type_0 : decode mX7_type.2.2.1 0 = .ok (.aload_n 0, 1) := by decide +kernel
theorem dX7_type_1 : decode mX7_type.2.2.1 1 = .ok (.getfield 26, 3) := by decide +kernel
theorem dX7_type_4 : decode mX7_type.2.2.1 4 = .ok (.iload_n 1, 1) := by decide +kernel
theorem dX7_type_5 : decode mX7_type.2.2.1 5 = .ok (.invokevirtual 130, 3) := by decide +kernel
theorem dX7_type_8 : decode mX7_type.2.2.1 8 = .ok (.ireturn, 1) := by decide +kernel
theorem dX7_clearText_0 : decode mX7_clearText.2.2.1 0 = .ok (.aload_n 0, 1) := by decide +kernel
theorem dX7_clearText_1 : decode mX7_clearText.2.2.1 1 = .ok (.getfield 26, 3) := by decide +kernel
theorem dX7_clearText_4 : decode mX7_clearText.2.2.1 4 = .ok (.invokevirtual 133, 3) := by decide +kernel
theorem dX7_clearText_7 : decode mX7_clearText.2.2.1 7 = .ok (.ireturn, 1) := by decide +kernel
theorem dX7_fault_0 : decode mX7_fault.2.2.1 0 = .ok (.iload_n 1, 1) := by decide +kernel
theorem dX7_fault_1 : decode mX7_fault.2.2.1 1 = .ok (.iconst 0, 1) := by decide +kernel
theorem dX7_fault_2 : decode mX7_fault.2.2.1 2 = .ok (.iconst 2, 1) := by decide +kernel
theorem dX7_fault_3 : decode mX7_fault.2.2.1 3 = .ok (.invokestatic 136, 3) := by decide +kernel
theorem dX7_fault_6 : decode mX7_fault.2.2.1 6 = .ok (.ifCond .ne 6, 3) := by decide +kernel
theorem dX7_fault_9 : decode mX7_fault.2.2.1 9 = .ok (.ldc 140, 2) := by decide +kernel
theorem dX7_fault_11 : decode mX7_fault.2.2.1 11 = .ok (.ireturn, 1) := by decide +kernel
theorem dX7_fault_12 : decode mX7_fault.2.2.1 12 = .ok (.aload_n 0, 1) := by decide +kernel
theorem dX7_fault_13 : decode mX7_fault.2.2.1 13 = .ok (.getfield 33, 3) := by decide +kernel
theorem dX7_fault_16 : decode mX7_fault.2.2.1 16 = .ok (.aload_n 0, 1) := by decide +kernel
theorem dX7_fault_17 : decode mX7_fault.2.2.1 17 = .ok (.getfield 26, 3) := by decide +kernel
theorem dX7_fault_20 : decode mX7_fault.2.2.1 20 = .ok (.aload_n 0, 1) := by decide +kernel
theorem dX7_fault_21 : decode mX7_fault.2.2.1 21 = .ok (.getfield 10, 3) := by decide +kernel
theorem dX7_fault_24 : decode mX7_fault.2.2.1 24 = .ok (.invokevirtual 141, 3) := by decide +kernel
theorem dX7_fault_27 : decode mX7_fault.2.2.1 27 = .ok (.aload_n 0, 1) := by decide +kernel
theorem dX7_fault_28 : decode mX7_fault.2.2.1 28 = .ok (.getfield 33, 3) := by decide +kernel
theorem dX7_fault_31 : decode mX7_fault.2.2.1 31 = .ok (.getfield 145, 3) := by decide +kernel
theorem dX7_fault_34 : decode mX7_fault.2.2.1 34 = .ok (.ifCond .ne 6, 3) := by decide +kernel
theorem dX7_fault_37 : decode mX7_fault.2.2.1 37 = .ok (.ldc 148, 2) := by decide +kernel
theorem dX7_fault_39 : decode mX7_fault.2.2.1 39 = .ok (.ireturn, 1) := by decide +kernel
theorem dX7_fault_40 : decode mX7_fault.2.2.1 40 = .ok (.iload_n 1, 1) := by decide +kernel
theorem dX7_fault_41 : decode mX7_fault.2.2.1 41 = .ok (.lookupswitch 43 #[(0, 27), (1, 35)], 27) := by decide +kernel
theorem dX7_fault_68 : decode mX7_fault.2.2.1 68 = .ok (.aload_n 0, 1) := by decide +kernel
theorem dX7_fault_69 : decode mX7_fault.2.2.1 69 = .ok (.getfield 33, 3) := by decide +kernel
theorem dX7_fault_72 : decode mX7_fault.2.2.1 72 = .ok (.getfield 149, 3) := by decide +kernel
theorem dX7_fault_75 : decode mX7_fault.2.2.1 75 = .ok (.ireturn, 1) := by decide +kernel
theorem dX7_fault_76 : decode mX7_fault.2.2.1 76 = .ok (.aload_n 0, 1) := by decide +kernel
theorem dX7_fault_77 : decode mX7_fault.2.2.1 77 = .ok (.getfield 33, 3) := by decide +kernel
theorem dX7_fault_80 : decode mX7_fault.2.2.1 80 = .ok (.getfield 145, 3) := by decide +kernel
theorem dX7_fault_83 : decode mX7_fault.2.2.1 83 = .ok (.ireturn, 1) := by decide +kernel
theorem dX7_fault_84 : decode mX7_fault.2.2.1 84 = .ok (.aload_n 0, 1) := by decide +kernel
theorem dX7_fault_85 : decode mX7_fault.2.2.1 85 = .ok (.getfield 33, 3) := by decide +kernel
theorem dX7_fault_88 : decode mX7_fault.2.2.1 88 = .ok (.getfield 152, 3) := by decide +kernel
theorem dX7_fault_91 : decode mX7_fault.2.2.1 91 = .ok (.ireturn, 1) := by decide +kernel
theorem dX7_play_0 : decode mX7_play.2.2.1 0 = .ok (.aload_n 0, 1) := by decide +kernel
theorem dX7_play_1 : decode mX7_play.2.2.1 1 = .ok (.getfield 33, 3) := by decide +kernel
theorem dX7_play_4 : decode mX7_play.2.2.1 4 = .ok (.aload_n 0, 1) := by decide +kernel
theorem dX7_play_5 : decode mX7_play.2.2.1 5 = .ok (.getfield 26, 3) := by decide +kernel
theorem dX7_play_8 : decode mX7_play.2.2.1 8 = .ok (.aload_n 0, 1) := by decide +kernel
theorem dX7_play_9 : decode mX7_play.2.2.1 9 = .ok (.getfield 10, 3) := by decide +kernel
theorem dX7_play_12 : decode mX7_play.2.2.1 12 = .ok (.invokevirtual 141, 3) := by decide +kernel
theorem dX7_play_15 : decode mX7_play.2.2.1 15 = .ok (.aload_n 0, 1) := by decide +kernel
theorem dX7_play_16 : decode mX7_play.2.2.1 16 = .ok (.getfield 33, 3) := by decide +kernel
theorem dX7_play_19 : decode mX7_play.2.2.1 19 = .ok (.getfield 145, 3) := by decide +kernel
theorem dX7_play_22 : decode mX7_play.2.2.1 22 = .ok (.ifCond .eq 6, 3) := by decide +kernel
theorem dX7_play_25 : decode mX7_play.2.2.1 25 = .ok (.ldc 155, 2) := by decide +kernel
theorem dX7_play_27 : decode mX7_play.2.2.1 27 = .ok (.ireturn, 1) := by decide +kernel
theorem dX7_play_28 : decode mX7_play.2.2.1 28 = .ok (.aload_n 0, 1) := by decide +kernel
theorem dX7_play_29 : decode mX7_play.2.2.1 29 = .ok (.getfield 19, 3) := by decide +kernel
theorem dX7_play_32 : decode mX7_play.2.2.1 32 = .ok (.aload_n 0, 1) := by decide +kernel
theorem dX7_play_33 : decode mX7_play.2.2.1 33 = .ok (.getfield 10, 3) := by decide +kernel
theorem dX7_play_36 : decode mX7_play.2.2.1 36 = .ok (.invokevirtual 37, 3) := by decide +kernel
theorem dX7_play_39 : decode mX7_play.2.2.1 39 = .ok (.aload_n 0, 1) := by decide +kernel
theorem dX7_play_40 : decode mX7_play.2.2.1 40 = .ok (.getfield 10, 3) := by decide +kernel
theorem dX7_play_43 : decode mX7_play.2.2.1 43 = .ok (.aload_n 0, 1) := by decide +kernel
theorem dX7_play_44 : decode mX7_play.2.2.1 44 = .ok (.getfield 33, 3) := by decide +kernel
theorem dX7_play_47 : decode mX7_play.2.2.1 47 = .ok (.getfield 156, 3) := by decide +kernel
theorem dX7_play_50 : decode mX7_play.2.2.1 50 = .ok (.invokevirtual 159, 3) := by decide +kernel
theorem dX7_play_53 : decode mX7_play.2.2.1 53 = .ok (.aload_n 0, 1) := by decide +kernel
theorem dX7_play_54 : decode mX7_play.2.2.1 54 = .ok (.aload_n 0, 1) := by decide +kernel
theorem dX7_play_55 : decode mX7_play.2.2.1 55 = .ok (.getfield 33, 3) := by decide +kernel
theorem dX7_play_58 : decode mX7_play.2.2.1 58 = .ok (.getfield 162, 3) := by decide +kernel
theorem dX7_play_61 : decode mX7_play.2.2.1 61 = .ok (.invokevirtual 45, 3) := by decide +kernel
theorem dX7_play_64 : decode mX7_play.2.2.1 64 = .ok (.ireturn, 1) := by decide +kernel
theorem dX7_settled_0 : decode mX7_settled.2.2.1 0 = .ok (.iload_n 1, 1) := by decide +kernel
theorem dX7_settled_1 : decode mX7_settled.2.2.1 1 = .ok (.ifCond .lt 10, 3) := by decide +kernel
theorem dX7_settled_4 : decode mX7_settled.2.2.1 4 = .ok (.aload_n 0, 1) := by decide +kernel
theorem dX7_settled_5 : decode mX7_settled.2.2.1 5 = .ok (.getfield 19, 3) := by decide +kernel
theorem dX7_settled_8 : decode mX7_settled.2.2.1 8 = .ok (.invokevirtual 165, 3) := by decide +kernel
theorem dX7_settled_11 : decode mX7_settled.2.2.1 11 = .ok (.iload_n 1, 1) := by decide +kernel
theorem dX7_settled_12 : decode mX7_settled.2.2.1 12 = .ok (.ireturn, 1) := by decide +kernel
theorem dX7_within_0 : decode mX7_within.2.2.1 0 = .ok (.iload_n 0, 1) := by decide +kernel
theorem dX7_within_1 : decode mX7_within.2.2.1 1 = .ok (.iload_n 1, 1) := by decide +kernel
theorem dX7_within_2 : decode mX7_within.2.2.1 2 = .ok (.if_icmp .lt 12, 3) := by decide +kernel
theorem dX7_within_5 : decode mX7_within.2.2.1 5 = .ok (.iload_n 0, 1) := by decide +kernel
theorem dX7_within_6 : decode mX7_within.2.2.1 6 = .ok (.iload_n 2, 1) := by decide +kernel
theorem dX7_within_7 : decode mX7_within.2.2.1 7 = .ok (.if_icmp .gt 7, 3) := by decide +kernel
theorem dX7_within_10 : decode mX7_within.2.2.1 10 = .ok (.iconst 1, 1) := by decide +kernel
theorem dX7_within_11 : decode mX7_within.2.2.1 11 = .ok (.goto 4, 3) := by decide +kernel
theorem dX7_within_14 : decode mX7_within.2.2.1 14 = .ok (.iconst 0, 1) := by decide +kernel
theorem dX7_within_15 : decode mX7_within.2.2.1 15 = .ok (.ireturn, 1) := by decide +kernel
theorem dX7_share_0 : decode mX7_share.2.2.1 0 = .ok (.iload_n 2, 1) := by decide +kernel
theorem dX7_share_1 : decode mX7_share.2.2.1 1 = .ok (.ifCond .gt 5, 3) := by decide +kernel
theorem dX7_share_4 : decode mX7_share.2.2.1 4 = .ok (.iconst 0, 1) := by decide +kernel
theorem dX7_share_5 : decode mX7_share.2.2.1 5 = .ok (.ireturn, 1) := by decide +kernel
theorem dX7_share_6 : decode mX7_share.2.2.1 6 = .ok (.iload_n 0, 1) := by decide +kernel
theorem dX7_share_7 : decode mX7_share.2.2.1 7 = .ok (.i2l, 1) := by decide +kernel
theorem dX7_share_8 : decode mX7_share.2.2.1 8 = .ok (.iload_n 1, 1) := by decide +kernel
theorem dX7_share_9 : decode mX7_share.2.2.1 9 = .ok (.i2l, 1) := by decide +kernel
theorem dX7_share_10 : decode mX7_share.2.2.1 10 = .ok (.lmul, 1) := by decide +kernel
theorem dX7_share_11 : decode mX7_share.2.2.1 11 = .ok (.iload_n 2, 1) := by decide +kernel
theorem dX7_share_12 : decode mX7_share.2.2.1 12 = .ok (.i2l, 1) := by decide +kernel
theorem dX7_share_13 : decode mX7_share.2.2.1 13 = .ok (.ldiv, 1) := by decide +kernel
theorem dX7_share_14 : decode mX7_share.2.2.1 14 = .ok (.l2i, 1) := by decide +kernel
theorem dX7_share_15 : decode mX7_share.2.2.1 15 = .ok (.ireturn, 1) := by decide +kernel
theorem dX7_sum_0 : decode mX7_sum.2.2.1 0 = .ok (.iconst 0, 1) := by decide +kernel
theorem dX7_sum_1 : decode mX7_sum.2.2.1 1 = .ok (.istore_n 1, 1) := by decide +kernel
theorem dX7_sum_2 : decode mX7_sum.2.2.1 2 = .ok (.iconst 0, 1) := by decide +kernel
theorem dX7_sum_3 : decode mX7_sum.2.2.1 3 = .ok (.istore_n 2, 1) := by decide +kernel
theorem dX7_sum_4 : decode mX7_sum.2.2.1 4 = .ok (.iload_n 2, 1) := by decide +kernel
theorem dX7_sum_5 : decode mX7_sum.2.2.1 5 = .ok (.aload_n 0, 1) := by decide +kernel
theorem dX7_sum_6 : decode mX7_sum.2.2.1 6 = .ok (.arraylength, 1) := by decide +kernel
theorem dX7_sum_7 : decode mX7_sum.2.2.1 7 = .ok (.if_icmp .ge 15, 3) := by decide +kernel
theorem dX7_sum_10 : decode mX7_sum.2.2.1 10 = .ok (.iload_n 1, 1) := by decide +kernel
theorem dX7_sum_11 : decode mX7_sum.2.2.1 11 = .ok (.aload_n 0, 1) := by decide +kernel
theorem dX7_sum_12 : decode mX7_sum.2.2.1 12 = .ok (.iload_n 2, 1) := by decide +kernel
theorem dX7_sum_13 : decode mX7_sum.2.2.1 13 = .ok (.iaload, 1) := by decide +kernel
theorem dX7_sum_14 : decode mX7_sum.2.2.1 14 = .ok (.iadd, 1) := by decide +kernel
theorem dX7_sum_15 : decode mX7_sum.2.2.1 15 = .ok (.istore_n 1, 1) := by decide +kernel
theorem dX7_sum_16 : decode mX7_sum.2.2.1 16 = .ok (.iinc 2 1, 3) := by decide +kernel
theorem dX7_sum_19 : decode mX7_sum.2.2.1 19 = .ok (.goto (-15), 3) := by decide +kernel
theorem dX7_sum_22 : decode mX7_sum.2.2.1 22 = .ok (.iload_n 1, 1) := by decide +kernel
theorem dX7_sum_23 : decode mX7_sum.2.2.1 23 = .ok (.ireturn, 1) := by decide +kernel
theorem dX7_copyRow_0 : decode mX7_copyRow.2.2.1 0 = .ok (.iconst 0, 1) := by decide +kernel
theorem dX7_copyRow_1 : decode mX7_copyRow.2.2.1 1 = .ok (.istore_n 2, 1) := by decide +kernel
theorem dX7_copyRow_2 : decode mX7_copyRow.2.2.1 2 = .ok (.iload_n 2, 1) := by decide +kernel
theorem dX7_copyRow_3 : decode mX7_copyRow.2.2.1 3 = .ok (.aload_n 0, 1) := by decide +kernel
theorem dX7_copyRow_4 : decode mX7_copyRow.2.2.1 4 = .ok (.arraylength, 1) := by decide +kernel
theorem dX7_copyRow_5 : decode mX7_copyRow.2.2.1 5 = .ok (.if_icmp .ge 21, 3) := by decide +kernel
theorem dX7_copyRow_8 : decode mX7_copyRow.2.2.1 8 = .ok (.iload_n 2, 1) := by decide +kernel
theorem dX7_copyRow_9 : decode mX7_copyRow.2.2.1 9 = .ok (.aload_n 1, 1) := by decide +kernel
theorem dX7_copyRow_10 : decode mX7_copyRow.2.2.1 10 = .ok (.arraylength, 1) := by decide +kernel
theorem dX7_copyRow_11 : decode mX7_copyRow.2.2.1 11 = .ok (.if_icmp .ge 15, 3) := by decide +kernel
theorem dX7_copyRow_14 : decode mX7_copyRow.2.2.1 14 = .ok (.aload_n 1, 1) := by decide +kernel
theorem dX7_copyRow_15 : decode mX7_copyRow.2.2.1 15 = .ok (.iload_n 2, 1) := by decide +kernel
theorem dX7_copyRow_16 : decode mX7_copyRow.2.2.1 16 = .ok (.aload_n 0, 1) := by decide +kernel
theorem dX7_copyRow_17 : decode mX7_copyRow.2.2.1 17 = .ok (.iload_n 2, 1) := by decide +kernel
theorem dX7_copyRow_18 : decode mX7_copyRow.2.2.1 18 = .ok (.iaload, 1) := by decide +kernel
theorem dX7_copyRow_19 : decode mX7_copyRow.2.2.1 19 = .ok (.iastore, 1) := by decide +kernel
theorem dX7_copyRow_20 : decode mX7_copyRow.2.2.1 20 = .ok (.iinc 2 1, 3) := by decide +kernel
theorem dX7_copyRow_23 : decode mX7_copyRow.2.2.1 23 = .ok (.goto (-21), 3) := by decide +kernel
theorem dX7_copyRow_26 : decode mX7_copyRow.2.2.1 26 = .ok (.return_, 1) := by decide +kernel
theorem dX7_floatBits_0 : decode mX7_floatBits.2.2.1 0 = .ok (.fload_n 0, 1) := by decide +kernel
theorem dX7_floatBits_1 : decode mX7_floatBits.2.2.1 1 = .ok (.fconst 0, 1) := by decide +kernel
theorem dX7_floatBits_2 : decode mX7_floatBits.2.2.1 2 = .ok (.fcmp .l, 1) := by decide +kernel
theorem dX7_floatBits_3 : decode mX7_floatBits.2.2.1 3 = .ok (.ifCond .gt 5, 3) := by decide +kernel
theorem dX7_floatBits_6 : decode mX7_floatBits.2.2.1 6 = .ok (.iconst 0, 1) := by decide +kernel
theorem dX7_floatBits_7 : decode mX7_floatBits.2.2.1 7 = .ok (.ireturn, 1) := by decide +kernel
theorem dX7_floatBits_8 : decode mX7_floatBits.2.2.1 8 = .ok (.fload_n 0, 1) := by decide +kernel
theorem dX7_floatBits_9 : decode mX7_floatBits.2.2.1 9 = .ok (.fstore_n 1, 1) := by decide +kernel
theorem dX7_floatBits_10 : decode mX7_floatBits.2.2.1 10 = .ok (.bipush 127, 2) := by decide +kernel
theorem dX7_floatBits_12 : decode mX7_floatBits.2.2.1 12 = .ok (.istore_n 2, 1) := by decide +kernel
theorem dX7_floatBits_13 : decode mX7_floatBits.2.2.1 13 = .ok (.iconst 0, 1) := by decide +kernel
theorem dX7_floatBits_14 : decode mX7_floatBits.2.2.1 14 = .ok (.istore_n 3, 1) := by decide +kernel
theorem dX7_floatBits_15 : decode mX7_floatBits.2.2.1 15 = .ok (.iload_n 3, 1) := by decide +kernel
theorem dX7_floatBits_16 : decode mX7_floatBits.2.2.1 16 = .ok (.bipush 127, 2) := by decide +kernel
theorem dX7_floatBits_18 : decode mX7_floatBits.2.2.1 18 = .ok (.if_icmp .ge 22, 3) := by decide +kernel
theorem dX7_floatBits_21 : decode mX7_floatBits.2.2.1 21 = .ok (.fload_n 1, 1) := by decide +kernel
theorem dX7_floatBits_22 : decode mX7_floatBits.2.2.1 22 = .ok (.fconst 2, 1) := by decide +kernel
theorem dX7_floatBits_23 : decode mX7_floatBits.2.2.1 23 = .ok (.fcmp .l, 1) := by decide +kernel
theorem dX7_floatBits_24 : decode mX7_floatBits.2.2.1 24 = .ok (.ifCond .lt 16, 3) := by decide +kernel
theorem dX7_floatBits_27 : decode mX7_floatBits.2.2.1 27 = .ok (.fload_n 1, 1) := by decide +kernel
theorem dX7_floatBits_28 : decode mX7_floatBits.2.2.1 28 = .ok (.fconst 2, 1) := by decide +kernel
theorem dX7_floatBits_29 : decode mX7_floatBits.2.2.1 29 = .ok (.fdiv, 1) := by decide +kernel
theorem dX7_floatBits_30 : decode mX7_floatBits.2.2.1 30 = .ok (.fstore_n 1, 1) := by decide +kernel
theorem dX7_floatBits_31 : decode mX7_floatBits.2.2.1 31 = .ok (.iinc 2 1, 3) := by decide +kernel
theorem dX7_floatBits_34 : decode mX7_floatBits.2.2.1 34 = .ok (.iinc 3 1, 3) := by decide +kernel
theorem dX7_floatBits_37 : decode mX7_floatBits.2.2.1 37 = .ok (.goto (-22), 3) := by decide +kernel
theorem dX7_floatBits_40 : decode mX7_floatBits.2.2.1 40 = .ok (.iconst 0, 1) := by decide +kernel
theorem dX7_floatBits_41 : decode mX7_floatBits.2.2.1 41 = .ok (.istore_n 3, 1) := by decide +kernel
theorem dX7_floatBits_42 : decode mX7_floatBits.2.2.1 42 = .ok (.iload_n 3, 1) := by decide +kernel
theorem dX7_floatBits_43 : decode mX7_floatBits.2.2.1 43 = .ok (.bipush 126, 2) := by decide +kernel
theorem dX7_floatBits_45 : decode mX7_floatBits.2.2.1 45 = .ok (.if_icmp .ge 22, 3) := by decide +kernel
theorem dX7_floatBits_48 : decode mX7_floatBits.2.2.1 48 = .ok (.fload_n 1, 1) := by decide +kernel
theorem dX7_floatBits_49 : decode mX7_floatBits.2.2.1 49 = .ok (.fconst 1, 1) := by decide +kernel
theorem dX7_floatBits_50 : decode mX7_floatBits.2.2.1 50 = .ok (.fcmp .g, 1) := by decide +kernel
theorem dX7_floatBits_51 : decode mX7_floatBits.2.2.1 51 = .ok (.ifCond .ge 16, 3) := by decide +kernel
theorem dX7_floatBits_54 : decode mX7_floatBits.2.2.1 54 = .ok (.fload_n 1, 1) := by decide +kernel
theorem dX7_floatBits_55 : decode mX7_floatBits.2.2.1 55 = .ok (.fconst 2, 1) := by decide +kernel
theorem dX7_floatBits_56 : decode mX7_floatBits.2.2.1 56 = .ok (.fmul, 1) := by decide +kernel
theorem dX7_floatBits_57 : decode mX7_floatBits.2.2.1 57 = .ok (.fstore_n 1, 1) := by decide +kernel
theorem dX7_floatBits_58 : decode mX7_floatBits.2.2.1 58 = .ok (.iinc 2 (-1), 3) := by decide +kernel
theorem dX7_floatBits_61 : decode mX7_floatBits.2.2.1 61 = .ok (.iinc 3 1, 3) := by decide +kernel
theorem dX7_floatBits_64 : decode mX7_floatBits.2.2.1 64 = .ok (.goto (-22), 3) := by decide +kernel
theorem dX7_floatBits_67 : decode mX7_floatBits.2.2.1 67 = .ok (.iload_n 2, 1) := by decide +kernel
theorem dX7_floatBits_68 : decode mX7_floatBits.2.2.1 68 = .ok (.bipush 23, 2) := by decide +kernel
theorem dX7_floatBits_70 : decode mX7_floatBits.2.2.1 70 = .ok (.ishl, 1) := by decide +kernel
theorem dX7_floatBits_71 : decode mX7_floatBits.2.2.1 71 = .ok (.fload_n 1, 1) := by decide +kernel
theorem dX7_floatBits_72 : decode mX7_floatBits.2.2.1 72 = .ok (.fconst 1, 1) := by decide +kernel
theorem dX7_floatBits_73 : decode mX7_floatBits.2.2.1 73 = .ok (.fsub, 1) := by decide +kernel
theorem dX7_floatBits_74 : decode mX7_floatBits.2.2.1 74 = .ok (.ldc 168, 2) := by decide +kernel
theorem dX7_floatBits_76 : decode mX7_floatBits.2.2.1 76 = .ok (.fmul, 1) := by decide +kernel
theorem dX7_floatBits_77 : decode mX7_floatBits.2.2.1 77 = .ok (.f2i, 1) := by decide +kernel
theorem dX7_floatBits_78 : decode mX7_floatBits.2.2.1 78 = .ok (.ior, 1) := by decide +kernel
theorem dX7_floatBits_79 : decode mX7_floatBits.2.2.1 79 = .ok (.ireturn, 1) := by decide +kernel
theorem dX8_init_0 : decode mX8_init.2.2.1 0 = .ok (.aload_n 0, 1) := by decide +kernel
theorem dX8_init_1 : decode mX8_init.2.2.1 1 = .ok (.invokespecial 1, 3) := by decide +kernel
theorem dX8_init_4 : decode mX8_init.2.2.1 4 = .ok (.aload_n 0, 1) := by decide +kernel
theorem dX8_init_5 : decode mX8_init.2.2.1 5 = .ok (.sipush 316, 3) := by decide +kernel
theorem dX8_init_8 : decode mX8_init.2.2.1 8 = .ok (.newarray .int, 2) := by decide +kernel
theorem dX8_init_10 : decode mX8_init.2.2.1 10 = .ok (.putfield 7, 3) := by decide +kernel
theorem dX8_init_13 : decode mX8_init.2.2.1 13 = .ok (.aload_n 0, 1) := by decide +kernel
theorem dX8_init_14 : decode mX8_init.2.2.1 14 = .ok (.sipush 1264, 3) := by decide +kernel
theorem dX8_init_17 : decode mX8_init.2.2.1 17 = .ok (.newarray .int, 2) := by decide +kernel
theorem dX8_init_19 : decode mX8_init.2.2.1 19 = .ok (.putfield 13, 3) := by decide +kernel
theorem dX8_init_22 : decode mX8_init.2.2.1 22 = .ok (.aload_n 0, 1) := by decide +kernel
theorem dX8_init_23 : decode mX8_init.2.2.1 23 = .ok (.sipush 316, 3) := by decide +kernel
theorem dX8_init_26 : decode mX8_init.2.2.1 26 = .ok (.newarray .int, 2) := by decide +kernel
theorem dX8_init_28 : decode mX8_init.2.2.1 28 = .ok (.putfield 16, 3) := by decide +kernel
theorem dX8_init_31 : decode mX8_init.2.2.1 31 = .ok (.aload_n 0, 1) := by decide +kernel
theorem dX8_init_32 : decode mX8_init.2.2.1 32 = .ok (.bipush 60, 2) := by decide +kernel
theorem dX8_init_34 : decode mX8_init.2.2.1 34 = .ok (.newarray .int, 2) := by decide +kernel
theorem dX8_init_36 : decode mX8_init.2.2.1 36 = .ok (.putfield 19, 3) := by decide +kernel
theorem dX8_init_39 : decode mX8_init.2.2.1 39 = .ok (.aload_n 0, 1) := by decide +kernel
theorem dX8_init_40 : decode mX8_init.2.2.1 40 = .ok (.bipush 12, 2) := by decide +kernel
theorem dX8_init_42 : decode mX8_init.2.2.1 42 = .ok (.newarray .int, 2) := by decide +kernel
theorem dX8_init_44 : decode mX8_init.2.2.1 44 = .ok (.putfield 22, 3) := by decide +kernel
theorem dX8_init_47 : decode mX8_init.2.2.1 47 = .ok (.aload_n 0, 1) := by decide +kernel
theorem dX8_init_48 : decode mX8_init.2.2.1 48 = .ok (.iconst 4, 1) := by decide +kernel
theorem dX8_init_49 : decode mX8_init.2.2.1 49 = .ok (.newarray .int, 2) := by decide +kernel
theorem dX8_init_51 : decode mX8_init.2.2.1 51 = .ok (.putfield 25, 3) := by decide +kernel
theorem dX8_init_54 : decode mX8_init.2.2.1 54 = .ok (.aload_n 0, 1) := by decide +kernel
theorem dX8_init_55 : decode mX8_init.2.2.1 55 = .ok (.getfield 7, 3) := by decide +kernel
theorem dX8_init_58 : decode mX8_init.2.2.1 58 = .ok (.bipush 7, 2) := by decide +kernel
theorem dX8_init_60 : decode mX8_init.2.2.1 60 = .ok (.bipush 10, 2) := by decide +kernel
theorem dX8_init_62 : decode mX8_init.2.2.1 62 = .ok (.iastore, 1) := by decide +kernel
theorem dX8_init_63 : decode mX8_init.2.2.1 63 = .ok (.aload_n 0, 1) := by decide +kernel
theorem dX8_init_64 : decode mX8_init.2.2.1 64 = .ok (.getfield 7, 3) := by decide +kernel
theorem dX8_init_67 : decode mX8_init.2.2.1 67 = .ok (.bipush 8, 2) := by decide +kernel
theorem dX8_init_69 : decode mX8_init.2.2.1 69 = .ok (.bipush 12, 2) := by decide +kernel
theorem dX8_init_71 : decode mX8_init.2.2.1 71 = .ok (.iastore, 1) := by decide +kernel
theorem dX8_init_72 : decode mX8_init.2.2.1 72 = .ok (.return_, 1) := by decide +kernel
theorem dX8_in_0 : decode mX8_in.2.2.1 0 = .ok (.iload_n 0, 1) := by decide +kernel
theorem dX8_in_1 : decode mX8_in.2.2.1 1 = .ok (.iload_n 1, 1) := by decide +kernel
theorem dX8_in_2 : decode mX8_in.2.2.1 2 = .ok (.if_icmp .lt 12, 3) := by decide +kernel
theorem dX8_in_5 : decode mX8_in.2.2.1 5 = .ok (.iload_n 0, 1) := by decide +kernel
theorem dX8_in_6 : decode mX8_in.2.2.1 6 = .ok (.iload_n 2, 1) := by decide +kernel
theorem dX8_in_7 : decode mX8_in.2.2.1 7 = .ok (.if_icmp .gt 7, 3) := by decide +kernel
theorem dX8_in_10 : decode mX8_in.2.2.1 10 = .ok (.iconst 1, 1) := by decide +kernel
theorem dX8_in_11 : decode mX8_in.2.2.1 11 = .ok (.goto 4, 3) := by decide +kernel
theorem dX8_in_14 : decode mX8_in.2.2.1 14 = .ok (.iconst 0, 1) := by decide +kernel
theorem dX8_in_15 : decode mX8_in.2.2.1 15 = .ok (.ireturn, 1) := by decide +kernel
theorem dX8_copies_0 : decode mX8_copies.2.2.1 0 = .ok (.iconst 0, 1) := by decide +kernel
theorem dX8_copies_1 : decode mX8_copies.2.2.1 1 = .ok (.istore_n 2, 1) := by decide +kernel
theorem dX8_copies_2 : decode mX8_copies.2.2.1 2 = .ok (.iload_n 2, 1) := by decide +kernel
theorem dX8_copies_3 : decode mX8_copies.2.2.1 3 = .ok (.sipush 316, 3) := by decide +kernel
theorem dX8_copies_6 : decode mX8_copies.2.2.1 6 = .ok (.if_icmp .ge 15, 3) := by decide +kernel
theorem dX8_copies_9 : decode mX8_copies.2.2.1 9 = .ok (.aload_n 1, 1) := by decide +kernel
theorem dX8_copies_10 : decode mX8_copies.2.2.1 10 = .ok (.iload_n 2, 1) := by decide +kernel
theorem dX8_copies_11 : decode mX8_copies.2.2.1 11 = .ok (.aload_n 0, 1) := by decide +kernel
theorem dX8_copies_12 : decode mX8_copies.2.2.1 12 = .ok (.iload_n 2, 1) := by decide +kernel
theorem dX8_copies_13 : decode mX8_copies.2.2.1 13 = .ok (.iaload, 1) := by decide +kernel
theorem dX8_copies_14 : decode mX8_copies.2.2.1 14 = .ok (.iastore, 1) := by decide +kernel
theorem dX8_copies_15 : decode mX8_copies.2.2.1 15 = .ok (.iinc 2 1, 3) := by decide +kernel
theorem dX8_copies_18 : decode mX8_copies.2.2.1 18 = .ok (.goto (-16), 3) := by decide +kernel
theorem dX8_copies_21 : decode mX8_copies.2.2.1 21 = .ok (.return_, 1) := by decide +kernel
theorem dX8_changes_0 : decode mX8_changes.2.2.1 0 = .ok (.aload_n 0, 1) := by decide +kernel
theorem dX8_changes_1 : decode mX8_changes.2.2.1 1 = .ok (.getfield 28, 3) := by decide +kernel
theorem dX8_changes_4 : decode mX8_changes.2.2.1 4 = .ok (.ifCond .eq 4, 3) := by decide +kernel
theorem dX8_changes_7 : decode mX8_changes.2.2.1 7 = .ok (.return_, 1) := by decide +kernel
theorem dX8_changes_8 : decode mX8_changes.2.2.1 8 = .ok (.aload_n 0, 1) := by decide +kernel
theorem dX8_changes_9 : decode mX8_changes.2.2.1 9 = .ok (.getfield 32, 3) := by decide +kernel
theorem dX8_changes_12 : decode mX8_changes.2.2.1 12 = .ok (.iconst 4, 1) := by decide +kernel
theorem dX8_changes_13 : decode mX8_changes.2.2.1 13 = .ok (.if_icmp .ne 44, 3) := by decide +kernel
theorem dX8_changes_16 : decode mX8_changes.2.2.1 16 = .ok (.iconst 0, 1) := by decide +kernel
theorem dX8_changes_17 : decode mX8_changes.2.2.1 17 = .ok (.istore_n 1, 1) := by decide +kernel
theorem dX8_changes_18 : decode mX8_changes.2.2.1 18 = .ok (.iload_n 1, 1) := by decide +kernel
theorem dX8_changes_19 : decode mX8_changes.2.2.1 19 = .ok (.sipush 948, 3) := by decide +kernel
theorem dX8_changes_22 : decode mX8_changes.2.2.1 22 = .ok (.if_icmp .ge 25, 3) := by decide +kernel
theorem dX8_changes_25 : decode mX8_changes.2.2.1 25 = .ok (.aload_n 0, 1) := by decide +kernel
theorem dX8_changes_26 : decode mX8_changes.2.2.1 26 = .ok (.getfield 13, 3) := by decide +kernel
theorem dX8_changes_29 : decode mX8_changes.2.2.1 29 = .ok (.iload_n 1, 1) := by decide +kernel
theorem dX8_changes_30 : decode mX8_changes.2.2.1 30 = .ok (.aload_n 0, 1) := by decide +kernel
theorem dX8_changes_31 : decode mX8_changes.2.2.1 31 = .ok (.getfield 13, 3) := by decide +kernel
theorem dX8_changes_34 : decode mX8_changes.2.2.1 34 = .ok (.iload_n 1, 1) := by decide +kernel
theorem dX8_changes_35 : decode mX8_changes.2.2.1 35 = .ok (.sipush 316, 3) := by decide +kernel
theorem dX8_changes_38 : decode mX8_changes.2.2.1 38 = .ok (.iadd, 1) := by decide +kernel
theorem dX8_changes_39 : decode mX8_changes.2.2.1 39 = .ok (.iaload, 1) := by decide +kernel
theorem dX8_changes_40 : decode mX8_changes.2.2.1 40 = .ok (.iastore, 1) := by decide +kernel
theorem dX8_changes_41 : decode mX8_changes.2.2.1 41 = .ok (.iinc 1 1, 3) := by decide +kernel
theorem dX8_changes_44 : decode mX8_changes.2.2.1 44 = .ok (.goto (-26), 3) := by decide +kernel
theorem dX8_changes_47 : decode mX8_changes.2.2.1 47 = .ok (.aload_n 0, 1) := by decide +kernel
theorem dX8_changes_48 : decode mX8_changes.2.2.1 48 = .ok (.dup, 1) := by decide +kernel
theorem dX8_changes_49 : decode mX8_changes.2.2.1 49 = .ok (.getfield 32, 3) := by decide +kernel
theorem dX8_changes_52 : decode mX8_changes.2.2.1 52 = .ok (.iconst 1, 1) := by decide +kernel
theorem dX8_changes_53 : decode mX8_changes.2.2.1 53 = .ok (.isub, 1) := by decide +kernel
theorem dX8_changes_54 : decode mX8_changes.2.2.1 54 = .ok (.putfield 32, 3) := by decide +kernel
theorem dX8_changes_57 : decode mX8_changes.2.2.1 57 = .ok (.iconst 0, 1) := by decide +kernel
theorem dX8_changes_58 : decode mX8_changes.2.2.1 58 = .ok (.istore_n 1, 1) := by decide +kernel
theorem dX8_changes_59 : decode mX8_changes.2.2.1 59 = .ok (.iload_n 1, 1) := by decide +kernel
theorem dX8_changes_60 : decode mX8_changes.2.2.1 60 = .ok (.sipush 316, 3) := by decide +kernel
theorem dX8_changes_63 : decode mX8_changes.2.2.1 63 = .ok (.if_icmp .ge 30, 3) := by decide +kernel
theorem dX8_changes_66 : decode mX8_changes.2.2.1 66 = .ok (.aload_n 0, 1) := by decide +kernel
theorem dX8_changes_67 : decode mX8_changes.2.2.1 67 = .ok (.getfield 13, 3) := by decide +kernel
theorem dX8_changes_70 : decode mX8_changes.2.2.1 70 = .ok (.sipush 316, 3) := by decide +kernel
theorem dX8_changes_73 : decode mX8_changes.2.2.1 73 = .ok (.aload_n 0, 1) := by decide +kernel
theorem dX8_changes_74 : decode mX8_changes.2.2.1 74 = .ok (.getfield 32, 3) := by decide +kernel
theorem dX8_changes_77 : decode mX8_changes.2.2.1 77 = .ok (.imul, 1) := by decide +kernel
theorem dX8_changes_78 : decode mX8_changes.2.2.1 78 = .ok (.iload_n 1, 1) := by decide +kernel
theorem dX8_changes_79 : decode mX8_changes.2.2.1 79 = .ok (.iadd, 1) := by decide +kernel
theorem dX8_changes_80 : decode mX8_changes.2.2.1 80 = .ok (.aload_n 0, 1) := by decide +kernel
theorem dX8_changes_81 : decode mX8_changes.2.2.1 81 = .ok (.getfield 7, 3) := by decide +kernel
theorem dX8_changes_84 : decode mX8_changes.2.2.1 84 = .ok (.iload_n 1, 1) := by decide +kernel
theorem dX8_changes_85 : decode mX8_changes.2.2.1 85 = .ok (.iaload, 1) := by decide +kernel
theorem dX8_changes_86 : decode mX8_changes.2.2.1 86 = .ok (.iastore, 1) := by decide +kernel
theorem dX8_changes_87 : decode mX8_changes.2.2.1 87 = .ok (.iinc 1 1, 3) := by decide +kernel
theorem dX8_changes_90 : decode mX8_changes.2.2.1 90 = .ok (.goto (-31), 3) := by decide +kernel
theorem dX8_changes_93 : decode mX8_changes.2.2.1 93 = .ok (.aload_n 0, 1) := by decide +kernel
theorem dX8_changes_94 : decode mX8_changes.2.2.1 94 = .ok (.dup, 1) := by decide +kernel
theorem dX8_changes_95 : decode mX8_changes.2.2.1 95 = .ok (.getfield 32, 3) := by decide +kernel
theorem dX8_changes_98 : decode mX8_changes.2.2.1 98 = .ok (.iconst 1, 1) := by decide +kernel
theorem dX8_changes_99 : decode mX8_changes.2.2.1 99 = .ok (.iadd, 1) := by decide +kernel
theorem dX8_changes_100 : decode mX8_changes.2.2.1 100 = .ok (.putfield 32, 3) := by decide +kernel
theorem dX8_changes_103 : decode mX8_changes.2.2.1 103 = .ok (.return_, 1) := by decide +kernel
theorem dX8_isLot_0 : decode mX8_isLot.2.2.1 0 = .ok (.iload_n 1, 1) := by decide +kernel
theorem dX8_isLot_1 : decode mX8_isLot.2.2.1 1 = .ok (.ifCond .lt 17, 3) := by decide +kernel
theorem dX8_isLot_4 : decode mX8_isLot.2.2.1 4 = .ok (.iload_n 1, 1) := by decide +kernel
theorem dX8_isLot_5 : decode mX8_isLot.2.2.1 5 = .ok (.aload_n 0, 1) := by decide +kernel
theorem dX8_isLot_6 : decode mX8_isLot.2.2.1 6 = .ok (.getfield 7, 3) := by decide +kernel
theorem dX8_isLot_9 : decode mX8_isLot.2.2.1 9 = .ok (.iconst 0, 1) := by decide +kernel
theorem dX8_isLot_10 : decode mX8_isLot.2.2.1 10 = .ok (.iaload, 1) := by decide +kernel
theorem dX8_isLot_11 : decode mX8_isLot.2.2.1 11 = .ok (.if_icmp .ge 7, 3) := by decide +kernel
theorem dX8_isLot_14 : decode mX8_isLot.2.2.1 14 = .ok (.iconst 1, 1) := by decide +kernel
theorem dX8_isLot_15 : decode mX8_isLot.2.2.1 15 = .ok (.goto 4, 3) := by decide +kernel
theorem dX8_isLot_18 : decode mX8_isLot.2.2.1 18 = .ok (.iconst 0, 1) := by decide +kernel
theorem dX8_isLot_19 : decode mX8_isLot.2.2.1 19 = .ok (.ireturn, 1) := by decide +kernel
theorem dX8_isBuyer_0 : decode mX8_isBuyer.2.2.1 0 = .ok (.iload_n 1, 1) := by decide +kernel
theorem dX8_isBuyer_1 : decode mX8_isBuyer.2.2.1 1 = .ok (.ifCond .lt 17, 3) := by decide +kernel
theorem dX8_isBuyer_4 : decode mX8_isBuyer.2.2.1 4 = .ok (.iload_n 1, 1) := by decide +kernel
theorem dX8_isBuyer_5 : decode mX8_isBuyer.2.2.1 5 = .ok (.aload_n 0, 1) := by decide +kernel
theorem dX8_isBuyer_6 : decode mX8_isBuyer.2.2.1 6 = .ok (.getfield 7, 3) := by decide +kernel
theorem dX8_isBuyer_9 : decode mX8_isBuyer.2.2.1 9 = .ok (.iconst 1, 1) := by decide +kernel
theorem dX8_isBuyer_10 : decode mX8_isBuyer.2.2.1 10 = .ok (.iaload, 1) := by decide +kernel
theorem dX8_isBuyer_11 : decode mX8_isBuyer.2.2.1 11 = .ok (.if_icmp .ge 7, 3) := by decide +kernel
theorem dX8_isBuyer_14 : decode mX8_isBuyer.2.2.1 14 = .ok (.iconst 1, 1) := by decide +kernel
theorem dX8_isBuyer_15 : decode mX8_isBuyer.2.2.1 15 = .ok (.goto 4, 3) := by decide +kernel
theorem dX8_isBuyer_18 : decode mX8_isBuyer.2.2.1 18 = .ok (.iconst 0, 1) := by decide +kernel
theorem dX8_isBuyer_19 : decode mX8_isBuyer.2.2.1 19 = .ok (.ireturn, 1) := by decide +kernel
theorem dX8_of_0 : decode mX8_of.2.2.1 0 = .ok (.aload_n 0, 1) := by decide +kernel
theorem dX8_of_1 : decode mX8_of.2.2.1 1 = .ok (.getfield 7, 3) := by decide +kernel
theorem dX8_of_4 : decode mX8_of.2.2.1 4 = .ok (.bipush 9, 2) := by decide +kernel
theorem dX8_of_6 : decode mX8_of.2.2.1 6 = .ok (.bipush 20, 2) := by decide +kernel
theorem dX8_of_8 : decode mX8_of.2.2.1 8 = .ok (.iload_n 1, 1) := by decide +kernel
theorem dX8_of_9 : decode mX8_of.2.2.1 9 = .ok (.imul, 1) := by decide +kernel
theorem dX8_of_10 : decode mX8_of.2.2.1 10 = .ok (.iadd, 1) := by decide +kernel
theorem dX8_of_11 : decode mX8_of.2.2.1 11 = .ok (.iload_n 2, 1) := by decide +kernel
theorem dX8_of_12 : decode mX8_of.2.2.1 12 = .ok (.iadd, 1) := by decide +kernel
theorem dX8_of_13 : decode mX8_of.2.2.1 13 = .ok (.iaload, 1) := by decide +kernel
theorem dX8_of_14 : decode mX8_of.2.2.1 14 = .ok (.ireturn, 1) := by decide +kernel
theorem dX8_isOpen_0 : decode mX8_isOpen.2.2.1 0 = .ok (.aload_n 0, 1) := by decide +kernel
theorem dX8_isOpen_1 : decode mX8_isOpen.2.2.1 1 = .ok (.iload_n 1, 1) := by decide +kernel
theorem dX8_isOpen_2 : decode mX8_isOpen.2.2.1 2 = .ok (.iconst 4, 1) := by decide +kernel
theorem dX8_isOpen_3 : decode mX8_isOpen.2.2.1 3 = .ok (.invokevirtual 36, 3) := by decide +kernel
theorem dX8_isOpen_6 : decode mX8_isOpen.2.2.1 6 = .ok (.ifCond .ne 7, 3) := by decide +kernel
theorem dX8_isOpen_9 : decode mX8_isOpen.2.2.1 9 = .ok (.iconst 1, 1) := by decide +kernel
theorem dX8_isOpen_10 : decode mX8_isOpen.2.2.1 10 = .ok (.goto 4, 3) := by decide +kernel
theorem dX8_isOpen_13 : decode mX8_isOpen.2.2.1 13 = .ok (.iconst 0, 1) := by decide +kernel
theorem dX8_isOpen_14 : decode mX8_isOpen.2.2.1 14 = .ok (.ireturn, 1) := by decide +kernel
theorem dX8_hold_0 : decode mX8_hold.2.2.1 0 = .ok (.sipush 136, 3) := by decide +kernel
theorem dX8_hold_3 : decode mX8_hold.2.2.1 3 = .ok (.bipush 18, 2) := by decide +kernel
theorem dX8_hold_5 : decode mX8_hold.2.2.1 5 = .ok (.iload_n 0, 1) := by decide +kernel
theorem dX8_hold_6 : decode mX8_hold.2.2.1 6 = .ok (.imul, 1) := by decide +kernel
theorem dX8_hold_7 : decode mX8_hold.2.2.1 7 = .ok (.iadd, 1) := by decide +kernel
theorem dX8_hold_8 : decode mX8_hold.2.2.1 8 = .ok (.iconst 3, 1) := by decide +kernel
theorem dX8_hold_9 : decode mX8_hold.2.2.1 9 = .ok (.iload_n 1, 1) := by decide +kernel
theorem dX8_hold_10 : decode mX8_hold.2.2.1 10 = .ok (.imul, 1) := by decide +kernel
theorem dX8_hold_11 : decode mX8_hold.2.2.1 11 = .ok (.iadd, 1) := by decide +kernel
theorem dX8_hold_12 : decode mX8_hold.2.2.1 12 = .ok (.iload_n 2, 1) := by decide +kernel
theorem dX8_hold_13 : decode mX8_hold.2.2.1 13 = .ok (.iadd, 1) := by decide +kernel
theorem dX8_hold_14 : decode mX8_hold.2.2.1 14 = .ok (.ireturn, 1) := by decide +kernel
theorem dX8_holds_0 : decode mX8_holds.2.2.1 0 = .ok (.aload_n 0, 1) := by decide +kernel
theorem dX8_holds_1 : decode mX8_holds.2.2.1 1 = .ok (.getfield 7, 3) := by decide +kernel
theorem dX8_holds_4 : decode mX8_holds.2.2.1 4 = .ok (.iload_n 1, 1) := by decide +kernel
theorem dX8_holds_5 : decode mX8_holds.2.2.1 5 = .ok (.iload_n 2, 1) := by decide +kernel
theorem dX8_holds_6 : decode mX8_holds.2.2.1 6 = .ok (.iconst 0, 1) := by decide +kernel
theorem dX8_holds_7 : decode mX8_holds.2.2.1 7 = .ok (.invokestatic 40, 3) := by decide +kernel
theorem dX8_holds_10 : decode mX8_holds.2.2.1 10 = .ok (.iaload, 1) := by decide +kernel
theorem dX8_holds_11 : decode mX8_holds.2.2.1 11 = .ok (.ireturn, 1) := by decide +kernel
theorem dX8_allHeld_0 : decode mX8_allHeld.2.2.1 0 = .ok (.iconst 0, 1) := by decide +kernel
theorem dX8_allHeld_1 : decode mX8_allHeld.2.2.1 1 = .ok (.istore_n 2, 1) := by decide +kernel
theorem dX8_allHeld_2 : decode mX8_allHeld.2.2.1 2 = .ok (.iconst 0, 1) := by decide +kernel
theorem dX8_allHeld_3 : decode mX8_allHeld.2.2.1 3 = .ok (.istore_n 3, 1) := by decide +kernel
theorem dX8_allHeld_4 : decode mX8_allHeld.2.2.1 4 = .ok (.iload_n 3, 1) := by decide +kernel
theorem dX8_allHeld_5 : decode mX8_allHeld.2.2.1 5 = .ok (.aload_n 0, 1) := by decide +kernel
theorem dX8_allHeld_6 : decode mX8_allHeld.2.2.1 6 = .ok (.getfield 7, 3) := by decide +kernel
theorem dX8_allHeld_9 : decode mX8_allHeld.2.2.1 9 = .ok (.iconst 1, 1) := by decide +kernel
theorem dX8_allHeld_10 : decode mX8_allHeld.2.2.1 10 = .ok (.iaload, 1) := by decide +kernel
theorem dX8_allHeld_11 : decode mX8_allHeld.2.2.1 11 = .ok (.if_icmp .ge 18, 3) := by decide +kernel
theorem dX8_allHeld_14 : decode mX8_allHeld.2.2.1 14 = .ok (.iload_n 2, 1) := by decide +kernel
theorem dX8_allHeld_15 : decode mX8_allHeld.2.2.1 15 = .ok (.aload_n 0, 1) := by decide +kernel
theorem dX8_allHeld_16 : decode mX8_allHeld.2.2.1 16 = .ok (.iload_n 3, 1) := by decide +kernel
theorem dX8_allHeld_17 : decode mX8_allHeld.2.2.1 17 = .ok (.iload_n 1, 1) := by decide +kernel
theorem dX8_allHeld_18 : decode mX8_allHeld.2.2.1 18 = .ok (.invokevirtual 44, 3) := by decide +kernel
theorem dX8_allHeld_21 : decode mX8_allHeld.2.2.1 21 = .ok (.iadd, 1) := by decide +kernel
theorem dX8_allHeld_22 : decode mX8_allHeld.2.2.1 22 = .ok (.istore_n 2, 1) := by decide +kernel
theorem dX8_allHeld_23 : decode mX8_allHeld.2.2.1 23 = .ok (.iinc 3 1, 3) := by decide +kernel
theorem dX8_allHeld_26 : decode mX8_allHeld.2.2.1 26 = .ok (.goto (-22), 3) := by decide +kernel
theorem dX8_allHeld_29 : decode mX8_allHeld.2.2.1 29 = .ok (.iload_n 2, 1) := by decide +kernel
theorem dX8_allHeld_30 : decode mX8_allHeld.2.2.1 30 = .ok (.ireturn, 1) := by decide +kernel
theorem dX8_loads_0 : decode mX8_loads.2.2.1 0 = .ok (.aload_n 0, 1) := by decide +kernel
theorem dX8_loads_1 : decode mX8_loads.2.2.1 1 = .ok (.aload_n 0, 1) := by decide +kernel
theorem dX8_loads_2 : decode mX8_loads.2.2.1 2 = .ok (.iload_n 1, 1) := by decide +kernel
theorem dX8_loads_3 : decode mX8_loads.2.2.1 3 = .ok (.iconst 0, 1) := by decide +kernel
theorem dX8_loads_4 : decode mX8_loads.2.2.1 4 = .ok (.invokevirtual 36, 3) := by decide +kernel
theorem dX8_loads_7 : decode mX8_loads.2.2.1 7 = .ok (.putfield 47, 3) := by decide +kernel
theorem dX8_loads_10 : decode mX8_loads.2.2.1 10 = .ok (.iconst 0, 1) := by decide +kernel
theorem dX8_loads_11 : decode mX8_loads.2.2.1 11 = .ok (.istore_n 2, 1) := by decide +kernel
theorem dX8_loads_12 : decode mX8_loads.2.2.1 12 = .ok (.iload_n 2, 1) := by decide +kernel
theorem dX8_loads_13 : decode mX8_loads.2.2.1 13 = .ok (.aload_n 0, 1) := by decide +kernel
theorem dX8_loads_14 : decode mX8_loads.2.2.1 14 = .ok (.getfield 47, 3) := by decide +kernel
theorem dX8_loads_17 : decode mX8_loads.2.2.1 17 = .ok (.if_icmp .ge 24, 3) := by decide +kernel
theorem dX8_loads_20 : decode mX8_loads.2.2.1 20 = .ok (.aload_n 0, 1) := by decide +kernel
theorem dX8_loads_21 : decode mX8_loads.2.2.1 21 = .ok (.getfield 22, 3) := by decide +kernel
theorem dX8_loads_24 : decode mX8_loads.2.2.1 24 = .ok (.iload_n 2, 1) := by decide +kernel
theorem dX8_loads_25 : decode mX8_loads.2.2.1 25 = .ok (.aload_n 0, 1) := by decide +kernel
theorem dX8_loads_26 : decode mX8_loads.2.2.1 26 = .ok (.iload_n 1, 1) := by decide +kernel
theorem dX8_loads_27 : decode mX8_loads.2.2.1 27 = .ok (.bipush 8, 2) := by decide +kernel
theorem dX8_loads_29 : decode mX8_loads.2.2.1 29 = .ok (.iload_n 2, 1) := by decide +kernel
theorem dX8_loads_30 : decode mX8_loads.2.2.1 30 = .ok (.iadd, 1) := by decide +kernel
theorem dX8_loads_31 : decode mX8_loads.2.2.1 31 = .ok (.invokevirtual 36, 3) := by decide +kernel
theorem dX8_loads_34 : decode mX8_loads.2.2.1 34 = .ok (.iastore, 1) := by decide +kernel
theorem dX8_loads_35 : decode mX8_loads.2.2.1 35 = .ok (.iinc 2 1, 3) := by decide +kernel
theorem dX8_loads_38 : decode mX8_loads.2.2.1 38 = .ok (.goto (-26), 3) := by decide +kernel
theorem dX8_loads_41 : decode mX8_loads.2.2.1 41 = .ok (.return_, 1) := by decide +kernel
theorem dX8_lays_0 : decode mX8_lays.2.2.1 0 = .ok (.aload_n 0, 1) := by decide +kernel
theorem dX8_lays_1 : decode mX8_lays.2.2.1 1 = .ok (.getfield 7, 3) := by decide +kernel
theorem dX8_lays_4 : decode mX8_lays.2.2.1 4 = .ok (.bipush 9, 2) := by decide +kernel
theorem dX8_lays_6 : decode mX8_lays.2.2.1 6 = .ok (.bipush 20, 2) := by decide +kernel
theorem dX8_lays_8 : decode mX8_lays.2.2.1 8 = .ok (.iload_n 1, 1) := by decide +kernel
theorem dX8_lays_9 : decode mX8_lays.2.2.1 9 = .ok (.imul, 1) := by decide +kernel
theorem dX8_lays_10 : decode mX8_lays.2.2.1 10 = .ok (.iadd, 1) := by decide +kernel
theorem dX8_lays_11 : decode mX8_lays.2.2.1 11 = .ok (.iconst 0, 1) := by decide +kernel
theorem dX8_lays_12 : decode mX8_lays.2.2.1 12 = .ok (.iadd, 1) := by decide +kernel
theorem dX8_lays_13 : decode mX8_lays.2.2.1 13 = .ok (.aload_n 0, 1) := by decide +kernel
theorem dX8_lays_14 : decode mX8_lays.2.2.1 14 = .ok (.getfield 47, 3) := by decide +kernel
theorem dX8_lays_17 : decode mX8_lays.2.2.1 17 = .ok (.iastore, 1) := by decide +kernel
theorem dX8_lays_18 : decode mX8_lays.2.2.1 18 = .ok (.iconst 0, 1) := by decide +kernel
theorem dX8_lays_19 : decode mX8_lays.2.2.1 19 = .ok (.istore_n 2, 1) := by decide +kernel
theorem dX8_lays_20 : decode mX8_lays.2.2.1 20 = .ok (.iload_n 2, 1) := by decide +kernel
theorem dX8_lays_21 : decode mX8_lays.2.2.1 21 = .ok (.aload_n 0, 1) := by decide +kernel
theorem dX8_lays_22 : decode mX8_lays.2.2.1 22 = .ok (.getfield 47, 3) := by decide +kernel
theorem dX8_lays_25 : decode mX8_lays.2.2.1 25 = .ok (.if_icmp .ge 32, 3) := by decide +kernel
theorem dX8_lays_28 : decode mX8_lays.2.2.1 28 = .ok (.aload_n 0, 1) := by decide +kernel
theorem dX8_lays_29 : decode mX8_lays.2.2.1 29 = .ok (.getfield 7, 3) := by decide +kernel
theorem dX8_lays_32 : decode mX8_lays.2.2.1 32 = .ok (.bipush 9, 2) := by decide +kernel
theorem dX8_lays_34 : decode mX8_lays.2.2.1 34 = .ok (.bipush 20, 2) := by decide +kernel
theorem dX8_lays_36 : decode mX8_lays.2.2.1 36 = .ok (.iload_n 1, 1) := by decide +kernel
theorem dX8_lays_37 : decode mX8_lays.2.2.1 37 = .ok (.imul, 1) := by decide +kernel
theorem dX8_lays_38 : decode mX8_lays.2.2.1 38 = .ok (.iadd, 1) := by decide +kernel
theorem dX8_lays_39 : decode mX8_lays.2.2.1 39 = .ok (.bipush 8, 2) := by decide +kernel
theorem dX8_lays_41 : decode mX8_lays.2.2.1 41 = .ok (.iadd, 1) := by decide +kernel
theorem dX8_lays_42 : decode mX8_lays.2.2.1 42 = .ok (.iload_n 2, 1) := by decide +kernel
theorem dX8_lays_43 : decode mX8_lays.2.2.1 43 = .ok (.iadd, 1) := by decide +kernel
theorem dX8_lays_44 : decode mX8_lays.2.2.1 44 = .ok (.aload_n 0, 1) := by decide +kernel
theorem dX8_lays_45 : decode mX8_lays.2.2.1 45 = .ok (.getfield 22, 3) := by decide +kernel
theorem dX8_lays_48 : decode mX8_lays.2.2.1 48 = .ok (.iload_n 2, 1) := by decide +kernel
theorem dX8_lays_49 : decode mX8_lays.2.2.1 49 = .ok (.iaload, 1) := by decide +kernel
theorem dX8_lays_50 : decode mX8_lays.2.2.1 50 = .ok (.iastore, 1) := by decide +kernel
theorem dX8_lays_51 : decode mX8_lays.2.2.1 51 = .ok (.iinc 2 1, 3) := by decide +kernel
theorem dX8_lays_54 : decode mX8_lays.2.2.1 54 = .ok (.goto (-34), 3) := by decide +kernel
theorem dX8_lays_57 : decode mX8_lays.2.2.1 57 = .ok (.return_, 1) := by decide +kernel
theorem dX8_all_0 : decode mX8_all.2.2.1 0 = .ok (.iconst 0, 1) := by decide +kernel
theorem dX8_all_1 : decode mX8_all.2.2.1 1 = .ok (.istore_n 1, 1) := by decide +kernel
theorem dX8_all_2 : decode mX8_all.2.2.1 2 = .ok (.iconst 0, 1) := by decide +kernel
theorem dX8_all_3 : decode mX8_all.2.2.1 3 = .ok (.istore_n 2, 1) := by decide +kernel
theorem dX8_all_4 : decode mX8_all.2.2.1 4 = .ok (.iload_n 2, 1) := by decide +kernel
theorem dX8_all_5 : decode mX8_all.2.2.1 5 = .ok (.aload_n 0, 1) := by decide +kernel
theorem dX8_all_6 : decode mX8_all.2.2.1 6 = .ok (.getfield 47, 3) := by decide +kernel
theorem dX8_all_9 : decode mX8_all.2.2.1 9 = .ok (.if_icmp .ge 18, 3) := by decide +kernel
theorem dX8_all_12 : decode mX8_all.2.2.1 12 = .ok (.iload_n 1, 1) := by decide +kernel
theorem dX8_all_13 : decode mX8_all.2.2.1 13 = .ok (.aload_n 0, 1) := by decide +kernel
theorem dX8_all_14 : decode mX8_all.2.2.1 14 = .ok (.getfield 22, 3) := by decide +kernel
theorem dX8_all_17 : decode mX8_all.2.2.1 17 = .ok (.iload_n 2, 1) := by decide +kernel
theorem dX8_all_18 : decode mX8_all.2.2.1 18 = .ok (.iaload, 1) := by decide +kernel
theorem dX8_all_19 : decode mX8_all.2.2.1 19 = .ok (.iadd, 1) := by decide +kernel
theorem dX8_all_20 : decode mX8_all.2.2.1 20 = .ok (.istore_n 1, 1) := by decide +kernel
theorem dX8_all_21 : decode mX8_all.2.2.1 21 = .ok (.iinc 2 1, 3) := by decide +kernel
theorem dX8_all_24 : decode mX8_all.2.2.1 24 = .ok (.goto (-20), 3) := by decide +kernel
theorem dX8_all_27 : decode mX8_all.2.2.1 27 = .ok (.iload_n 1, 1) := by decide +kernel
theorem dX8_all_28 : decode mX8_all.2.2.1 28 = .ok (.ireturn, 1) := by decide +kernel
theorem dX8_leaves_0 : decode mX8_leaves.2.2.1 0 = .ok (.iconst 0, 1) := by decide +kernel
theorem dX8_leaves_1 : decode mX8_leaves.2.2.1 1 = .ok (.istore_n 1, 1) := by decide +kernel
theorem dX8_leaves_2 : decode mX8_leaves.2.2.1 2 = .ok (.iconst 0, 1) := by decide +kernel
theorem dX8_leaves_3 : decode mX8_leaves.2.2.1 3 = .ok (.istore_n 2, 1) := by decide +kernel
theorem dX8_leaves_4 : decode mX8_leaves.2.2.1 4 = .ok (.iload_n 2, 1) := by decide +kernel
theorem dX8_leaves_5 : decode mX8_leaves.2.2.1 5 = .ok (.aload_n 0, 1) := by decide +kernel
theorem dX8_leaves_6 : decode mX8_leaves.2.2.1 6 = .ok (.getfield 47, 3) := by decide +kernel
theorem dX8_leaves_9 : decode mX8_leaves.2.2.1 9 = .ok (.if_icmp .ge 38, 3) := by decide +kernel
theorem dX8_leaves_12 : decode mX8_leaves.2.2.1 12 = .ok (.aload_n 0, 1) := by decide +kernel
theorem dX8_leaves_13 : decode mX8_leaves.2.2.1 13 = .ok (.getfield 22, 3) := by decide +kernel
theorem dX8_leaves_16 : decode mX8_leaves.2.2.1 16 = .ok (.iload_n 1, 1) := by decide +kernel
theorem dX8_leaves_17 : decode mX8_leaves.2.2.1 17 = .ok (.aload_n 0, 1) := by decide +kernel
theorem dX8_leaves_18 : decode mX8_leaves.2.2.1 18 = .ok (.getfield 22, 3) := by decide +kernel
theorem dX8_leaves_21 : decode mX8_leaves.2.2.1 21 = .ok (.iload_n 2, 1) := by decide +kernel
theorem dX8_leaves_22 : decode mX8_leaves.2.2.1 22 = .ok (.iaload, 1) := by decide +kernel
theorem dX8_leaves_23 : decode mX8_leaves.2.2.1 23 = .ok (.iastore, 1) := by decide +kernel
theorem dX8_leaves_24 : decode mX8_leaves.2.2.1 24 = .ok (.iload_n 1, 1) := by decide +kernel
theorem dX8_leaves_25 : decode mX8_leaves.2.2.1 25 = .ok (.aload_n 0, 1) := by decide +kernel
theorem dX8_leaves_26 : decode mX8_leaves.2.2.1 26 = .ok (.getfield 22, 3) := by decide +kernel
theorem dX8_leaves_29 : decode mX8_leaves.2.2.1 29 = .ok (.iload_n 2, 1) := by decide +kernel
theorem dX8_leaves_30 : decode mX8_leaves.2.2.1 30 = .ok (.iaload, 1) := by decide +kernel
theorem dX8_leaves_31 : decode mX8_leaves.2.2.1 31 = .ok (.ifCond .le 7, 3) := by decide +kernel
theorem dX8_leaves_34 : decode mX8_leaves.2.2.1 34 = .ok (.iconst 1, 1) := by decide +kernel
theorem dX8_leaves_35 : decode mX8_leaves.2.2.1 35 = .ok (.goto 4, 3) := by decide +kernel
theorem dX8_leaves_38 : decode mX8_leaves.2.2.1 38 = .ok (.iconst 0, 1) := by decide +kernel
theorem dX8_leaves_39 : decode mX8_leaves.2.2.1 39 = .ok (.iadd, 1) := by decide +kernel
theorem dX8_leaves_40 : decode mX8_leaves.2.2.1 40 = .ok (.istore_n 1, 1) := by decide +kernel
theorem dX8_leaves_41 : decode mX8_leaves.2.2.1 41 = .ok (.iinc 2 1, 3) := by decide +kernel
theorem dX8_leaves_44 : decode mX8_leaves.2.2.1 44 = .ok (.goto (-40), 3) := by decide +kernel
theorem dX8_leaves_47 : decode mX8_leaves.2.2.1 47 = .ok (.aload_n 0, 1) := by decide +kernel
theorem dX8_leaves_48 : decode mX8_leaves.2.2.1 48 = .ok (.iload_n 1, 1) := by decide +kernel
theorem dX8_leaves_49 : decode mX8_leaves.2.2.1 49 = .ok (.putfield 47, 3) := by decide +kernel
theorem dX8_leaves_52 : decode mX8_leaves.2.2.1 52 = .ok (.return_, 1) := by decide +kernel
theorem dX8_month_0 : decode mX8_month.2.2.1 0 = .ok (.iconst 0, 1) := by decide +kernel
theorem dX8_month_1 : decode mX8_month.2.2.1 1 = .ok (.istore_n 2, 1) := by decide +kernel
theorem dX8_month_2 : decode mX8_month.2.2.1 2 = .ok (.iconst 0, 1) := by decide +kernel
theorem dX8_month_3 : decode mX8_month.2.2.1 3 = .ok (.istore_n 3, 1) := by decide +kernel
theorem dX8_month_4 : decode mX8_month.2.2.1 4 = .ok (.iload_n 3, 1) := by decide +kernel
theorem dX8_month_5 : decode mX8_month.2.2.1 5 = .ok (.aload_n 0, 1) := by decide +kernel
theorem dX8_month_6 : decode mX8_month.2.2.1 6 = .ok (.getfield 47, 3) := by decide +kernel
theorem dX8_month_9 : decode mX8_month.2.2.1 9 = .ok (.if_icmp .ge 62, 3) := by decide +kernel
theorem dX8_month_12 : decode mX8_month.2.2.1 12 = .ok (.aload_n 0, 1) := by decide +kernel
theorem dX8_month_13 : decode mX8_month.2.2.1 13 = .ok (.getfield 22, 3) := by decide +kernel
theorem dX8_month_16 : decode mX8_month.2.2.1 16 = .ok (.iload_n 3, 1) := by decide +kernel
theorem dX8_month_17 : decode mX8_month.2.2.1 17 = .ok (.iaload, 1) := by decide +kernel
theorem dX8_month_18 : decode mX8_month.2.2.1 18 = .ok (.iload_n 1, 1) := by decide +kernel
theorem dX8_month_19 : decode mX8_month.2.2.1 19 = .ok (.imul, 1) := by decide +kernel
theorem dX8_month_20 : decode mX8_month.2.2.1 20 = .ok (.sipush 1000, 3) := by decide +kernel
theorem dX8_month_23 : decode mX8_month.2.2.1 23 = .ok (.idiv, 1) := by decide +kernel
theorem dX8_month_24 : decode mX8_month.2.2.1 24 = .ok (.istore 4, 2) := by decide +kernel
theorem dX8_month_26 : decode mX8_month.2.2.1 26 = .ok (.aload_n 0, 1) := by decide +kernel
theorem dX8_month_27 : decode mX8_month.2.2.1 27 = .ok (.getfield 22, 3) := by decide +kernel
theorem dX8_month_30 : decode mX8_month.2.2.1 30 = .ok (.iload_n 3, 1) := by decide +kernel
theorem dX8_month_31 : decode mX8_month.2.2.1 31 = .ok (.iaload, 1) := by decide +kernel
theorem dX8_month_32 : decode mX8_month.2.2.1 32 = .ok (.sipush 1800, 3) := by decide +kernel
theorem dX8_month_35 : decode mX8_month.2.2.1 35 = .ok (.if_icmp .ge 10, 3) := by decide +kernel
theorem dX8_month_38 : decode mX8_month.2.2.1 38 = .ok (.iconst 2, 1) := by decide +kernel
theorem dX8_month_39 : decode mX8_month.2.2.1 39 = .ok (.iload 4, 2) := by decide +kernel
theorem dX8_month_41 : decode mX8_month.2.2.1 41 = .ok (.imul, 1) := by decide +kernel
theorem dX8_month_42 : decode mX8_month.2.2.1 42 = .ok (.goto 5, 3) := by decide +kernel
theorem dX8_month_45 : decode mX8_month.2.2.1 45 = .ok (.iload 4, 2) := by decide +kernel
theorem dX8_month_47 : decode mX8_month.2.2.1 47 = .ok (.istore 4, 2) := by decide +kernel
theorem dX8_month_49 : decode mX8_month.2.2.1 49 = .ok (.aload_n 0, 1) := by decide +kernel
theorem dX8_month_50 : decode mX8_month.2.2.1 50 = .ok (.getfield 22, 3) := by decide +kernel
theorem dX8_month_53 : decode mX8_month.2.2.1 53 = .ok (.iload_n 3, 1) := by decide +kernel
theorem dX8_month_54 : decode mX8_month.2.2.1 54 = .ok (.dup2, 1) := by decide +kernel
theorem dX8_month_55 : decode mX8_month.2.2.1 55 = .ok (.iaload, 1) := by decide +kernel
theorem dX8_month_56 : decode mX8_month.2.2.1 56 = .ok (.iload 4, 2) := by decide +kernel
theorem dX8_month_58 : decode mX8_month.2.2.1 58 = .ok (.isub, 1) := by decide +kernel
theorem dX8_month_59 : decode mX8_month.2.2.1 59 = .ok (.iastore, 1) := by decide +kernel
theorem dX8_month_60 : decode mX8_month.2.2.1 60 = .ok (.iload_n 2, 1) := by decide +kernel
theorem dX8_month_61 : decode mX8_month.2.2.1 61 = .ok (.iload 4, 2) := by decide +kernel
theorem dX8_month_63 : decode mX8_month.2.2.1 63 = .ok (.iadd, 1) := by decide +kernel
theorem dX8_month_64 : decode mX8_month.2.2.1 64 = .ok (.istore_n 2, 1) := by decide +kernel
theorem dX8_month_65 : decode mX8_month.2.2.1 65 = .ok (.iinc 3 1, 3) := by decide +kernel
theorem dX8_month_68 : decode mX8_month.2.2.1 68 = .ok (.goto (-64), 3) := by decide +kernel
theorem dX8_month_71 : decode mX8_month.2.2.1 71 = .ok (.aload_n 0, 1) := by decide +kernel
theorem dX8_month_72 : decode mX8_month.2.2.1 72 = .ok (.invokevirtual 50, 3) := by decide +kernel
theorem dX8_month_75 : decode mX8_month.2.2.1 75 = .ok (.iload_n 2, 1) := by decide +kernel
theorem dX8_month_76 : decode mX8_month.2.2.1 76 = .ok (.ireturn, 1) := by decide +kernel
theorem dX8_casesIn_0 : decode mX8_casesIn.2.2.1 0 = .ok (.iconst 0, 1) := by decide +kernel
theorem dX8_casesIn_1 : decode mX8_casesIn.2.2.1 1 = .ok (.istore_n 3, 1) := by decide +kernel
theorem dX8_casesIn_2 : decode mX8_casesIn.2.2.1 2 = .ok (.iconst 0, 1) := by decide +kernel
theorem dX8_casesIn_3 : decode mX8_casesIn.2.2.1 3 = .ok (.istore 4, 2) := by decide +kernel
theorem dX8_casesIn_5 : decode mX8_casesIn.2.2.1 5 = .ok (.iload 4, 2) := by decide +kernel
theorem dX8_casesIn_7 : decode mX8_casesIn.2.2.1 7 = .ok (.iload_n 2, 1) := by decide +kernel
theorem dX8_casesIn_8 : decode mX8_casesIn.2.2.1 8 = .ok (.if_icmp .ge 22, 3) := by decide +kernel
theorem dX8_casesIn_11 : decode mX8_casesIn.2.2.1 11 = .ok (.iload_n 3, 1) := by decide +kernel
theorem dX8_casesIn_12 : decode mX8_casesIn.2.2.1 12 = .ok (.aload_n 0, 1) := by decide +kernel
theorem dX8_casesIn_13 : decode mX8_casesIn.2.2.1 13 = .ok (.aload_n 0, 1) := by decide +kernel
theorem dX8_casesIn_14 : decode mX8_casesIn.2.2.1 14 = .ok (.iload_n 1, 1) := by decide +kernel
theorem dX8_casesIn_15 : decode mX8_casesIn.2.2.1 15 = .ok (.iconst 1, 1) := by decide +kernel
theorem dX8_casesIn_16 : decode mX8_casesIn.2.2.1 16 = .ok (.invokevirtual 36, 3) := by decide +kernel
theorem dX8_casesIn_19 : decode mX8_casesIn.2.2.1 19 = .ok (.invokevirtual 53, 3) := by decide +kernel
theorem dX8_casesIn_22 : decode mX8_casesIn.2.2.1 22 = .ok (.iadd, 1) := by decide +kernel
theorem dX8_casesIn_23 : decode mX8_casesIn.2.2.1 23 = .ok (.istore_n 3, 1) := by decide +kernel
theorem dX8_casesIn_24 : decode mX8_casesIn.2.2.1 24 = .ok (.iinc 4 1, 3) := by decide +kernel
theorem dX8_casesIn_27 : decode mX8_casesIn.2.2.1 27 = .ok (.goto (-22), 3) := by decide +kernel
theorem dX8_casesIn_30 : decode mX8_casesIn.2.2.1 30 = .ok (.iload_n 3, 1) := by decide +kernel
theorem dX8_casesIn_31 : decode mX8_casesIn.2.2.1 31 = .ok (.ifCond .ge 8, 3) := by decide +kernel
theorem dX8_casesIn_34 : decode mX8_casesIn.2.2.1 34 = .ok (.ldc 57, 2) := by decide +kernel
theorem dX8_casesIn_36 : decode mX8_casesIn.2.2.1 36 = .ok (.goto 10, 3) := by decide +kernel
theorem dX8_casesIn_39 : decode mX8_casesIn.2.2.1 39 = .ok (.aload_n 0, 1) := by decide +kernel
theorem dX8_casesIn_40 : decode mX8_casesIn.2.2.1 40 = .ok (.invokevirtual 58, 3) := by decide +kernel
theorem dX8_casesIn_43 : decode mX8_casesIn.2.2.1 43 = .ok (.bipush 90, 2) := by decide +kernel
theorem dX8_casesIn_45 : decode mX8_casesIn.2.2.1 45 = .ok (.idiv, 1) := by decide +kernel
theorem dX8_casesIn_46 : decode mX8_casesIn.2.2.1 46 = .ok (.ireturn, 1) := by decide +kernel
theorem dX8_expected_0 : decode mX8_expected.2.2.1 0 = .ok (.aload_n 0, 1) := by decide +kernel
theorem dX8_expected_1 : decode mX8_expected.2.2.1 1 = .ok (.iload_n 1, 1) := by decide +kernel
theorem dX8_expected_2 : decode mX8_expected.2.2.1 2 = .ok (.invokevirtual 62, 3) := by decide +kernel
theorem dX8_expected_5 : decode mX8_expected.2.2.1 5 = .ok (.aload_n 0, 1) := by decide +kernel
theorem dX8_expected_6 : decode mX8_expected.2.2.1 6 = .ok (.iload_n 1, 1) := by decide +kernel
theorem dX8_expected_7 : decode mX8_expected.2.2.1 7 = .ok (.aload_n 0, 1) := by decide +kernel
theorem dX8_expected_8 : decode mX8_expected.2.2.1 8 = .ok (.getfield 7, 3) := by decide +kernel
theorem dX8_expected_11 : decode mX8_expected.2.2.1 11 = .ok (.bipush 8, 2) := by decide +kernel
theorem dX8_expected_13 : decode mX8_expected.2.2.1 13 = .ok (.iaload, 1) := by decide +kernel
theorem dX8_expected_14 : decode mX8_expected.2.2.1 14 = .ok (.invokevirtual 66, 3) := by decide +kernel
theorem dX8_expected_17 : decode mX8_expected.2.2.1 17 = .ok (.bipush 100, 2) := by decide +kernel
theorem dX8_expected_19 : decode mX8_expected.2.2.1 19 = .ok (.aload_n 0, 1) := by decide +kernel
theorem dX8_expected_20 : decode mX8_expected.2.2.1 20 = .ok (.getfield 7, 3) := by decide +kernel
theorem dX8_expected_23 : decode mX8_expected.2.2.1 23 = .ok (.bipush 7, 2) := by decide +kernel
theorem dX8_expected_25 : decode mX8_expected.2.2.1 25 = .ok (.iaload, 1) := by decide +kernel
theorem dX8_expected_26 : decode mX8_expected.2.2.1 26 = .ok (.isub, 1) := by decide +kernel
theorem dX8_expected_27 : decode mX8_expected.2.2.1 27 = .ok (.imul, 1) := by decide +kernel
theorem dX8_expected_28 : decode mX8_expected.2.2.1 28 = .ok (.bipush 100, 2) := by decide +kernel
theorem dX8_expected_30 : decode mX8_expected.2.2.1 30 = .ok (.idiv, 1) := by decide +kernel
theorem dX8_expected_31 : decode mX8_expected.2.2.1 31 = .ok (.ireturn, 1) := by decide +kernel
theorem dX8_needy_0 : decode mX8_needy.2.2.1 0 = .ok (.iconst 0, 1) := by decide +kernel
theorem dX8_needy_1 : decode mX8_needy.2.2.1 1 = .ok (.istore_n 1, 1) := by decide +kernel
theorem dX8_needy_2 : decode mX8_needy.2.2.1 2 = .ok (.iload_n 1, 1) := by decide +kernel
theorem dX8_needy_3 : decode mX8_needy.2.2.1 3 = .ok (.aload_n 0, 1) := by decide +kernel
theorem dX8_needy_4 : decode mX8_needy.2.2.1 4 = .ok (.getfield 47, 3) := by decide +kernel
theorem dX8_needy_7 : decode mX8_needy.2.2.1 7 = .ok (.iconst 1, 1) := by decide +kernel
theorem dX8_needy_8 : decode mX8_needy.2.2.1 8 = .ok (.isub, 1) := by decide +kernel
theorem dX8_needy_9 : decode mX8_needy.2.2.1 9 = .ok (.if_icmp .ge 23, 3) := by decide +kernel
theorem dX8_needy_12 : decode mX8_needy.2.2.1 12 = .ok (.aload_n 0, 1) := by decide +kernel
theorem dX8_needy_13 : decode mX8_needy.2.2.1 13 = .ok (.getfield 22, 3) := by decide +kernel
theorem dX8_needy_16 : decode mX8_needy.2.2.1 16 = .ok (.iload_n 1, 1) := by decide +kernel
theorem dX8_needy_17 : decode mX8_needy.2.2.1 17 = .ok (.iaload, 1) := by decide +kernel
theorem dX8_needy_18 : decode mX8_needy.2.2.1 18 = .ok (.sipush 2250, 3) := by decide +kernel
theorem dX8_needy_21 : decode mX8_needy.2.2.1 21 = .ok (.if_icmp .ge 5, 3) := by decide +kernel
theorem dX8_needy_24 : decode mX8_needy.2.2.1 24 = .ok (.iload_n 1, 1) := by decide +kernel
theorem dX8_needy_25 : decode mX8_needy.2.2.1 25 = .ok (.ireturn, 1) := by decide +kernel
theorem dX8_needy_26 : decode mX8_needy.2.2.1 26 = .ok (.iinc 1 1, 3) := by decide +kernel
theorem dX8_needy_29 : decode mX8_needy.2.2.1 29 = .ok (.goto (-27), 3) := by decide +kernel
theorem dX8_needy_32 : decode mX8_needy.2.2.1 32 = .ok (.ldc 57, 2) := by decide +kernel
theorem dX8_needy_34 : decode mX8_needy.2.2.1 34 = .ok (.ireturn, 1) := by decide +kernel
theorem dX8_tops_0 : decode mX8_tops.2.2.1 0 = .ok (.aload_n 0, 1) := by decide +kernel
theorem dX8_tops_1 : decode mX8_tops.2.2.1 1 = .ok (.invokevirtual 69, 3) := by decide +kernel
theorem dX8_tops_4 : decode mX8_tops.2.2.1 4 = .ok (.ifCond .lt 81, 3) := by decide +kernel
theorem dX8_tops_7 : decode mX8_tops.2.2.1 7 = .ok (.aload_n 0, 1) := by decide +kernel
theorem dX8_tops_8 : decode mX8_tops.2.2.1 8 = .ok (.invokevirtual 69, 3) := by decide +kernel
theorem dX8_tops_11 : decode mX8_tops.2.2.1 11 = .ok (.istore_n 1, 1) := by decide +kernel
theorem dX8_tops_12 : decode mX8_tops.2.2.1 12 = .ok (.aload_n 0, 1) := by decide +kernel
theorem dX8_tops_13 : decode mX8_tops.2.2.1 13 = .ok (.getfield 47, 3) := by decide +kernel
theorem dX8_tops_16 : decode mX8_tops.2.2.1 16 = .ok (.iconst 1, 1) := by decide +kernel
theorem dX8_tops_17 : decode mX8_tops.2.2.1 17 = .ok (.isub, 1) := by decide +kernel
theorem dX8_tops_18 : decode mX8_tops.2.2.1 18 = .ok (.istore_n 2, 1) := by decide +kernel
theorem dX8_tops_19 : decode mX8_tops.2.2.1 19 = .ok (.aload_n 0, 1) := by decide +kernel
theorem dX8_tops_20 : decode mX8_tops.2.2.1 20 = .ok (.getfield 22, 3) := by decide +kernel
theorem dX8_tops_23 : decode mX8_tops.2.2.1 23 = .ok (.iload_n 2, 1) := by decide +kernel
theorem dX8_tops_24 : decode mX8_tops.2.2.1 24 = .ok (.iaload, 1) := by decide +kernel
theorem dX8_tops_25 : decode mX8_tops.2.2.1 25 = .ok (.sipush 2250, 3) := by decide +kernel
theorem dX8_tops_28 : decode mX8_tops.2.2.1 28 = .ok (.aload_n 0, 1) := by decide +kernel
theorem dX8_tops_29 : decode mX8_tops.2.2.1 29 = .ok (.getfield 22, 3) := by decide +kernel
theorem dX8_tops_32 : decode mX8_tops.2.2.1 32 = .ok (.iload_n 1, 1) := by decide +kernel
theorem dX8_tops_33 : decode mX8_tops.2.2.1 33 = .ok (.iaload, 1) := by decide +kernel
theorem dX8_tops_34 : decode mX8_tops.2.2.1 34 = .ok (.isub, 1) := by decide +kernel
theorem dX8_tops_35 : decode mX8_tops.2.2.1 35 = .ok (.if_icmp .ge 12, 3) := by decide +kernel
theorem dX8_tops_38 : decode mX8_tops.2.2.1 38 = .ok (.aload_n 0, 1) := by decide +kernel
theorem dX8_tops_39 : decode mX8_tops.2.2.1 39 = .ok (.getfield 22, 3) := by decide +kernel
theorem dX8_tops_42 : decode mX8_tops.2.2.1 42 = .ok (.iload_n 2, 1) := by decide +kernel
theorem dX8_tops_43 : decode mX8_tops.2.2.1 43 = .ok (.iaload, 1) := by decide +kernel
theorem dX8_tops_44 : decode mX8_tops.2.2.1 44 = .ok (.goto 13, 3) := by decide +kernel
theorem dX8_tops_47 : decode mX8_tops.2.2.1 47 = .ok (.sipush 2250, 3) := by decide +kernel
theorem dX8_tops_50 : decode mX8_tops.2.2.1 50 = .ok (.aload_n 0, 1) := by decide +kernel
theorem dX8_tops_51 : decode mX8_tops.2.2.1 51 = .ok (.getfield 22, 3) := by decide +kernel
theorem dX8_tops_54 : decode mX8_tops.2.2.1 54 = .ok (.iload_n 1, 1) := by decide +kernel
theorem dX8_tops_55 : decode mX8_tops.2.2.1 55 = .ok (.iaload, 1) := by decide +kernel
theorem dX8_tops_56 : decode mX8_tops.2.2.1 56 = .ok (.isub, 1) := by decide +kernel
theorem dX8_tops_57 : decode mX8_tops.2.2.1 57 = .ok (.istore_n 3, 1) := by decide +kernel
theorem dX8_tops_58 : decode mX8_tops.2.2.1 58 = .ok (.aload_n 0, 1) := by decide +kernel
theorem dX8_tops_59 : decode mX8_tops.2.2.1 59 = .ok (.getfield 22, 3) := by decide +kernel
theorem dX8_tops_62 : decode mX8_tops.2.2.1 62 = .ok (.iload_n 1, 1) := by decide +kernel
theorem dX8_tops_63 : decode mX8_tops.2.2.1 63 = .ok (.dup2, 1) := by decide +kernel
theorem dX8_tops_64 : decode mX8_tops.2.2.1 64 = .ok (.iaload, 1) := by decide +kernel
theorem dX8_tops_65 : decode mX8_tops.2.2.1 65 = .ok (.iload_n 3, 1) := by decide +kernel
theorem dX8_tops_66 : decode mX8_tops.2.2.1 66 = .ok (.iadd, 1) := by decide +kernel
theorem dX8_tops_67 : decode mX8_tops.2.2.1 67 = .ok (.iastore, 1) := by decide +kernel
theorem dX8_tops_68 : decode mX8_tops.2.2.1 68 = .ok (.aload_n 0, 1) := by decide +kernel
theorem dX8_tops_69 : decode mX8_tops.2.2.1 69 = .ok (.getfield 22, 3) := by decide +kernel
theorem dX8_tops_72 : decode mX8_tops.2.2.1 72 = .ok (.iload_n 2, 1) := by decide +kernel
theorem dX8_tops_73 : decode mX8_tops.2.2.1 73 = .ok (.dup2, 1) := by decide +kernel
theorem dX8_tops_74 : decode mX8_tops.2.2.1 74 = .ok (.iaload, 1) := by decide +kernel
theorem dX8_tops_75 : decode mX8_tops.2.2.1 75 = .ok (.iload_n 3, 1) := by decide +kernel
theorem dX8_tops_76 : decode mX8_tops.2.2.1 76 = .ok (.isub, 1) := by decide +kernel
theorem dX8_tops_77 : decode mX8_tops.2.2.1 77 = .ok (.iastore, 1) := by decide +kernel
theorem dX8_tops_78 : decode mX8_tops.2.2.1 78 = .ok (.aload_n 0, 1) := by decide +kernel
theorem dX8_tops_79 : decode mX8_tops.2.2.1 79 = .ok (.invokevirtual 50, 3) := by decide +kernel
theorem dX8_tops_82 : decode mX8_tops.2.2.1 82 = .ok (.goto (-82), 3) := by decide +kernel
theorem dX8_tops_85 : decode mX8_tops.2.2.1 85 = .ok (.return_, 1) := by decide +kernel
theorem dX8_lot_0 : decode mX8_lot.2.2.1 0 = .ok (.iload_n 1, 1) := by decide +kernel
theorem dX8_lot_1 : decode mX8_lot.2.2.1 1 = .ok (.iconst 1, 1) := by decide +kernel
theorem dX8_lot_2 : decode mX8_lot.2.2.1 2 = .ok (.bipush 12, 2) := by decide +kernel
theorem dX8_lot_4 : decode mX8_lot.2.2.1 4 = .ok (.invokestatic 72, 3) := by decide +kernel
theorem dX8_lot_7 : decode mX8_lot.2.2.1 7 = .ok (.ifCond .eq 13, 3) := by decide +kernel
theorem dX8_lot_10 : decode mX8_lot.2.2.1 10 = .ok (.iload_n 2, 1) := by decide +kernel
theorem dX8_lot_11 : decode mX8_lot.2.2.1 11 = .ok (.iconst 0, 1) := by decide +kernel
theorem dX8_lot_12 : decode mX8_lot.2.2.1 12 = .ok (.bipush 50, 2) := by decide +kernel
theorem dX8_lot_14 : decode mX8_lot.2.2.1 14 = .ok (.invokestatic 72, 3) := by decide +kernel
theorem dX8_lot_17 : decode mX8_lot.2.2.1 17 = .ok (.ifCond .ne 6, 3) := by decide +kernel
theorem dX8_lot_20 : decode mX8_lot.2.2.1 20 = .ok (.ldc 76, 2) := by decide +kernel
theorem dX8_lot_22 : decode mX8_lot.2.2.1 22 = .ok (.ireturn, 1) := by decide +kernel
theorem dX8_lot_23 : decode mX8_lot.2.2.1 23 = .ok (.aload_n 0, 1) := by decide +kernel
theorem dX8_lot_24 : decode mX8_lot.2.2.1 24 = .ok (.getfield 7, 3) := by decide +kernel
theorem dX8_lot_27 : decode mX8_lot.2.2.1 27 = .ok (.iconst 0, 1) := by decide +kernel
theorem dX8_lot_28 : decode mX8_lot.2.2.1 28 = .ok (.iaload, 1) := by decide +kernel
theorem dX8_lot_29 : decode mX8_lot.2.2.1 29 = .ok (.istore_n 3, 1) := by decide +kernel
theorem dX8_lot_30 : decode mX8_lot.2.2.1 30 = .ok (.iload_n 3, 1) := by decide +kernel
theorem dX8_lot_31 : decode mX8_lot.2.2.1 31 = .ok (.bipush 6, 2) := by decide +kernel
theorem dX8_lot_33 : decode mX8_lot.2.2.1 33 = .ok (.if_icmp .ne 6, 3) := by decide +kernel
theorem dX8_lot_36 : decode mX8_lot.2.2.1 36 = .ok (.ldc 77, 2) := by decide +kernel
theorem dX8_lot_38 : decode mX8_lot.2.2.1 38 = .ok (.ireturn, 1) := by decide +kernel
theorem dX8_lot_39 : decode mX8_lot.2.2.1 39 = .ok (.aload_n 0, 1) := by decide +kernel
theorem dX8_lot_40 : decode mX8_lot.2.2.1 40 = .ok (.invokevirtual 78, 3) := by decide +kernel
theorem dX8_lot_43 : decode mX8_lot.2.2.1 43 = .ok (.aload_n 0, 1) := by decide +kernel
theorem dX8_lot_44 : decode mX8_lot.2.2.1 44 = .ok (.getfield 7, 3) := by decide +kernel
theorem dX8_lot_47 : decode mX8_lot.2.2.1 47 = .ok (.bipush 9, 2) := by decide +kernel
theorem dX8_lot_49 : decode mX8_lot.2.2.1 49 = .ok (.bipush 20, 2) := by decide +kernel
theorem dX8_lot_51 : decode mX8_lot.2.2.1 51 = .ok (.iload_n 3, 1) := by decide +kernel
theorem dX8_lot_52 : decode mX8_lot.2.2.1 52 = .ok (.imul, 1) := by decide +kernel
theorem dX8_lot_53 : decode mX8_lot.2.2.1 53 = .ok (.iadd, 1) := by decide +kernel
theorem dX8_lot_54 : decode mX8_lot.2.2.1 54 = .ok (.iconst 0, 1) := by decide +kernel
theorem dX8_lot_55 : decode mX8_lot.2.2.1 55 = .ok (.iadd, 1) := by decide +kernel
theorem dX8_lot_56 : decode mX8_lot.2.2.1 56 = .ok (.iload_n 1, 1) := by decide +kernel
theorem dX8_lot_57 : decode mX8_lot.2.2.1 57 = .ok (.iastore, 1) := by decide +kernel
theorem dX8_lot_58 : decode mX8_lot.2.2.1 58 = .ok (.aload_n 0, 1) := by decide +kernel
theorem dX8_lot_59 : decode mX8_lot.2.2.1 59 = .ok (.getfield 7, 3) := by decide +kernel
theorem dX8_lot_62 : decode mX8_lot.2.2.1 62 = .ok (.bipush 9, 2) := by decide +kernel
theorem dX8_lot_64 : decode mX8_lot.2.2.1 64 = .ok (.bipush 20, 2) := by decide +kernel
theorem dX8_lot_66 : decode mX8_lot.2.2.1 66 = .ok (.iload_n 3, 1) := by decide +kernel
theorem dX8_lot_67 : decode mX8_lot.2.2.1 67 = .ok (.imul, 1) := by decide +kernel
theorem dX8_lot_68 : decode mX8_lot.2.2.1 68 = .ok (.iadd, 1) := by decide +kernel
theorem dX8_lot_69 : decode mX8_lot.2.2.1 69 = .ok (.iconst 1, 1) := by decide +kernel
theorem dX8_lot_70 : decode mX8_lot.2.2.1 70 = .ok (.iadd, 1) := by decide +kernel
theorem dX8_lot_71 : decode mX8_lot.2.2.1 71 = .ok (.iload_n 2, 1) := by decide +kernel
theorem dX8_lot_72 : decode mX8_lot.2.2.1 72 = .ok (.iastore, 1) := by decide +kernel
theorem dX8_lot_73 : decode mX8_lot.2.2.1 73 = .ok (.iconst 0, 1) := by decide +kernel
theorem dX8_lot_74 : decode mX8_lot.2.2.1 74 = .ok (.istore 4, 2) := by decide +kernel
theorem dX8_lot_76 : decode mX8_lot.2.2.1 76 = .ok (.iload 4, 2) := by decide +kernel
theorem dX8_lot_78 : decode mX8_lot.2.2.1 78 = .ok (.iload_n 1, 1) := by decide +kernel
theorem dX8_lot_79 : decode mX8_lot.2.2.1 79 = .ok (.if_icmp .ge 30, 3) := by decide +kernel
theorem dX8_lot_82 : decode mX8_lot.2.2.1 82 = .ok (.aload_n 0, 1) := by decide +kernel
theorem dX8_lot_83 : decode mX8_lot.2.2.1 83 = .ok (.getfield 7, 3) := by decide +kernel
theorem dX8_lot_86 : decode mX8_lot.2.2.1 86 = .ok (.bipush 9, 2) := by decide +kernel
theorem dX8_lot_88 : decode mX8_lot.2.2.1 88 = .ok (.bipush 20, 2) := by decide +kernel
theorem dX8_lot_90 : decode mX8_lot.2.2.1 90 = .ok (.iload_n 3, 1) := by decide +kernel
theorem dX8_lot_91 : decode mX8_lot.2.2.1 91 = .ok (.imul, 1) := by decide +kernel
theorem dX8_lot_92 : decode mX8_lot.2.2.1 92 = .ok (.iadd, 1) := by decide +kernel
theorem dX8_lot_93 : decode mX8_lot.2.2.1 93 = .ok (.bipush 8, 2) := by decide +kernel
theorem dX8_lot_95 : decode mX8_lot.2.2.1 95 = .ok (.iadd, 1) := by decide +kernel
theorem dX8_lot_96 : decode mX8_lot.2.2.1 96 = .ok (.iload 4, 2) := by decide +kernel
theorem dX8_lot_98 : decode mX8_lot.2.2.1 98 = .ok (.iadd, 1) := by decide +kernel
theorem dX8_lot_99 : decode mX8_lot.2.2.1 99 = .ok (.sipush 2250, 3) := by decide +kernel
theorem dX8_lot_102 : decode mX8_lot.2.2.1 102 = .ok (.iastore, 1) := by decide +kernel
theorem dX8_lot_103 : decode mX8_lot.2.2.1 103 = .ok (.iinc 4 1, 3) := by decide +kernel
theorem dX8_lot_106 : decode mX8_lot.2.2.1 106 = .ok (.goto (-30), 3) := by decide +kernel
theorem dX8_lot_109 : decode mX8_lot.2.2.1 109 = .ok (.aload_n 0, 1) := by decide +kernel
theorem dX8_lot_110 : decode mX8_lot.2.2.1 110 = .ok (.getfield 7, 3) := by decide +kernel
theorem dX8_lot_113 : decode mX8_lot.2.2.1 113 = .ok (.iconst 0, 1) := by decide +kernel
theorem dX8_lot_114 : decode mX8_lot.2.2.1 114 = .ok (.dup2, 1) := by decide +kernel
theorem dX8_lot_115 : decode mX8_lot.2.2.1 115 = .ok (.iaload, 1) := by decide +kernel
theorem dX8_lot_116 : decode mX8_lot.2.2.1 116 = .ok (.iconst 1, 1) := by decide +kernel
theorem dX8_lot_117 : decode mX8_lot.2.2.1 117 = .ok (.iadd, 1) := by decide +kernel
theorem dX8_lot_118 : decode mX8_lot.2.2.1 118 = .ok (.iastore, 1) := by decide +kernel
theorem dX8_lot_119 : decode mX8_lot.2.2.1 119 = .ok (.iload_n 3, 1) := by decide +kernel
theorem dX8_lot_120 : decode mX8_lot.2.2.1 120 = .ok (.ireturn, 1) := by decide +kernel
theorem dX8_quote_0 : decode mX8_quote.2.2.1 0 = .ok (.aload_n 0, 1) := by decide +kernel
theorem dX8_quote_1 : decode mX8_quote.2.2.1 1 = .ok (.iload_n 1, 1) := by decide +kernel
theorem dX8_quote_2 : decode mX8_quote.2.2.1 2 = .ok (.iconst 3, 1) := by decide +kernel
theorem dX8_quote_3 : decode mX8_quote.2.2.1 3 = .ok (.invokevirtual 36, 3) := by decide +kernel
theorem dX8_quote_6 : decode mX8_quote.2.2.1 6 = .ok (.ifCond .ne 7, 3) := by decide +kernel
theorem dX8_quote_9 : decode mX8_quote.2.2.1 9 = .ok (.iconst 0, 1) := by decide +kernel
theorem dX8_quote_10 : decode mX8_quote.2.2.1 10 = .ok (.goto 16, 3) := by decide +kernel
theorem dX8_quote_13 : decode mX8_quote.2.2.1 13 = .ok (.aload_n 0, 1) := by decide +kernel
theorem dX8_quote_14 : decode mX8_quote.2.2.1 14 = .ok (.iload_n 1, 1) := by decide +kernel
theorem dX8_quote_15 : decode mX8_quote.2.2.1 15 = .ok (.iconst 2, 1) := by decide +kernel
theorem dX8_quote_16 : decode mX8_quote.2.2.1 16 = .ok (.invokevirtual 36, 3) := by decide +kernel
theorem dX8_quote_19 : decode mX8_quote.2.2.1 19 = .ok (.aload_n 0, 1) := by decide +kernel
theorem dX8_quote_20 : decode mX8_quote.2.2.1 20 = .ok (.iload_n 1, 1) := by decide +kernel
theorem dX8_quote_21 : decode mX8_quote.2.2.1 21 = .ok (.iconst 3, 1) := by decide +kernel
theorem dX8_quote_22 : decode mX8_quote.2.2.1 22 = .ok (.invokevirtual 36, 3) := by decide +kernel
theorem dX8_quote_25 : decode mX8_quote.2.2.1 25 = .ok (.idiv, 1) := by decide +kernel
theorem dX8_quote_26 : decode mX8_quote.2.2.1 26 = .ok (.istore_n 2, 1) := by decide +kernel
theorem dX8_quote_27 : decode mX8_quote.2.2.1 27 = .ok (.bipush 10, 2) := by decide +kernel
theorem dX8_quote_29 : decode mX8_quote.2.2.1 29 = .ok (.iload_n 2, 1) := by decide +kernel
theorem dX8_quote_30 : decode mX8_quote.2.2.1 30 = .ok (.iload_n 2, 1) := by decide +kernel
theorem dX8_quote_31 : decode mX8_quote.2.2.1 31 = .ok (.imul, 1) := by decide +kernel
theorem dX8_quote_32 : decode mX8_quote.2.2.1 32 = .ok (.bipush 100, 2) := by decide +kernel
theorem dX8_quote_34 : decode mX8_quote.2.2.1 34 = .ok (.idiv, 1) := by decide +kernel
theorem dX8_quote_35 : decode mX8_quote.2.2.1 35 = .ok (.iadd, 1) := by decide +kernel
theorem dX8_quote_36 : decode mX8_quote.2.2.1 36 = .ok (.ireturn, 1) := by decide +kernel
theorem dX8_tasted_0 : decode mX8_tasted.2.2.1 0 = .ok (.iconst 0, 1) := by decide +kernel
theorem dX8_tasted_1 : decode mX8_tasted.2.2.1 1 = .ok (.istore_n 1, 1) := by decide +kernel
theorem dX8_tasted_2 : decode mX8_tasted.2.2.1 2 = .ok (.iload_n 1, 1) := by decide +kernel
theorem dX8_tasted_3 : decode mX8_tasted.2.2.1 3 = .ok (.aload_n 0, 1) := by decide +kernel
theorem dX8_tasted_4 : decode mX8_tasted.2.2.1 4 = .ok (.getfield 47, 3) := by decide +kernel
theorem dX8_tasted_7 : decode mX8_tasted.2.2.1 7 = .ok (.if_icmp .ge 22, 3) := by decide +kernel
theorem dX8_tasted_10 : decode mX8_tasted.2.2.1 10 = .ok (.aload_n 0, 1) := by decide +kernel
theorem dX8_tasted_11 : decode mX8_tasted.2.2.1 11 = .ok (.getfield 22, 3) := by decide +kernel
theorem dX8_tasted_14 : decode mX8_tasted.2.2.1 14 = .ok (.iload_n 1, 1) := by decide +kernel
theorem dX8_tasted_15 : decode mX8_tasted.2.2.1 15 = .ok (.iaload, 1) := by decide +kernel
theorem dX8_tasted_16 : decode mX8_tasted.2.2.1 16 = .ok (.bipush 10, 2) := by decide +kernel
theorem dX8_tasted_18 : decode mX8_tasted.2.2.1 18 = .ok (.if_icmp .lt 5, 3) := by decide +kernel
theorem dX8_tasted_21 : decode mX8_tasted.2.2.1 21 = .ok (.iload_n 1, 1) := by decide +kernel
theorem dX8_tasted_22 : decode mX8_tasted.2.2.1 22 = .ok (.ireturn, 1) := by decide +kernel
theorem dX8_tasted_23 : decode mX8_tasted.2.2.1 23 = .ok (.iinc 1 1, 3) := by decide +kernel
theorem dX8_tasted_26 : decode mX8_tasted.2.2.1 26 = .ok (.goto (-24), 3) := by decide +kernel
theorem dX8_tasted_29 : decode mX8_tasted.2.2.1 29 = .ok (.ldc 57, 2) := by decide +kernel
theorem dX8_tasted_31 : decode mX8_tasted.2.2.1 31 = .ok (.ireturn, 1) := by decide +kernel
theorem dX8_taste_0 : decode mX8_taste.2.2.1 0 = .ok (.aload_n 0, 1) := by decide +kernel
theorem dX8_taste_1 : decode mX8_taste.2.2.1 1 = .ok (.iload_n 1, 1) := by decide +kernel
theorem dX8_taste_2 : decode mX8_taste.2.2.1 2 = .ok (.invokevirtual 81, 3) := by decide +kernel
theorem dX8_taste_5 : decode mX8_taste.2.2.1 5 = .ok (.ifCond .eq 13, 3) := by decide +kernel
theorem dX8_taste_8 : decode mX8_taste.2.2.1 8 = .ok (.iload_n 2, 1) := by decide +kernel
theorem dX8_taste_9 : decode mX8_taste.2.2.1 9 = .ok (.iconst 0, 1) := by decide +kernel
theorem dX8_taste_10 : decode mX8_taste.2.2.1 10 = .ok (.bipush 100, 2) := by decide +kernel
theorem dX8_taste_12 : decode mX8_taste.2.2.1 12 = .ok (.invokestatic 72, 3) := by decide +kernel
theorem dX8_taste_15 : decode mX8_taste.2.2.1 15 = .ok (.ifCond .ne 6, 3) := by decide +kernel
theorem dX8_taste_18 : decode mX8_taste.2.2.1 18 = .ok (.ldc 76, 2) := by decide +kernel
theorem dX8_taste_20 : decode mX8_taste.2.2.1 20 = .ok (.ireturn, 1) := by decide +kernel
theorem dX8_taste_21 : decode mX8_taste.2.2.1 21 = .ok (.aload_n 0, 1) := by decide +kernel
theorem dX8_taste_22 : decode mX8_taste.2.2.1 22 = .ok (.iload_n 1, 1) := by decide +kernel
theorem dX8_taste_23 : decode mX8_taste.2.2.1 23 = .ok (.invokevirtual 62, 3) := by decide +kernel
theorem dX8_taste_26 : decode mX8_taste.2.2.1 26 = .ok (.aload_n 0, 1) := by decide +kernel
theorem dX8_taste_27 : decode mX8_taste.2.2.1 27 = .ok (.iload_n 1, 1) := by decide +kernel
theorem dX8_taste_28 : decode mX8_taste.2.2.1 28 = .ok (.invokevirtual 85, 3) := by decide +kernel
theorem dX8_taste_31 : decode mX8_taste.2.2.1 31 = .ok (.ifCond .eq 10, 3) := by decide +kernel
theorem dX8_taste_34 : decode mX8_taste.2.2.1 34 = .ok (.aload_n 0, 1) := by decide +kernel
theorem dX8_taste_35 : decode mX8_taste.2.2.1 35 = .ok (.invokevirtual 88, 3) := by decide +kernel
theorem dX8_taste_38 : decode mX8_taste.2.2.1 38 = .ok (.ifCond .ge 6, 3) := by decide +kernel
theorem dX8_taste_41 : decode mX8_taste.2.2.1 41 = .ok (.ldc 91, 2) := by decide +kernel
theorem dX8_taste_43 : decode mX8_taste.2.2.1 43 = .ok (.ireturn, 1) := by decide +kernel
theorem dX8_taste_44 : decode mX8_taste.2.2.1 44 = .ok (.aload_n 0, 1) := by decide +kernel
theorem dX8_taste_45 : decode mX8_taste.2.2.1 45 = .ok (.invokevirtual 78, 3) := by decide +kernel
theorem dX8_taste_48 : decode mX8_taste.2.2.1 48 = .ok (.aload_n 0, 1) := by decide +kernel
theorem dX8_taste_49 : decode mX8_taste.2.2.1 49 = .ok (.getfield 22, 3) := by decide +kernel
theorem dX8_taste_52 : decode mX8_taste.2.2.1 52 = .ok (.aload_n 0, 1) := by decide +kernel
theorem dX8_taste_53 : decode mX8_taste.2.2.1 53 = .ok (.invokevirtual 88, 3) := by decide +kernel
theorem dX8_taste_56 : decode mX8_taste.2.2.1 56 = .ok (.dup2, 1) := by decide +kernel
theorem dX8_taste_57 : decode mX8_taste.2.2.1 57 = .ok (.iaload, 1) := by decide +kernel
theorem dX8_taste_58 : decode mX8_taste.2.2.1 58 = .ok (.bipush 10, 2) := by decide +kernel
theorem dX8_taste_60 : decode mX8_taste.2.2.1 60 = .ok (.isub, 1) := by decide +kernel
theorem dX8_taste_61 : decode mX8_taste.2.2.1 61 = .ok (.iastore, 1) := by decide +kernel
theorem dX8_taste_62 : decode mX8_taste.2.2.1 62 = .ok (.aload_n 0, 1) := by decide +kernel
theorem dX8_taste_63 : decode mX8_taste.2.2.1 63 = .ok (.invokevirtual 50, 3) := by decide +kernel
theorem dX8_taste_66 : decode mX8_taste.2.2.1 66 = .ok (.aload_n 0, 1) := by decide +kernel
theorem dX8_taste_67 : decode mX8_taste.2.2.1 67 = .ok (.iload_n 1, 1) := by decide +kernel
theorem dX8_taste_68 : decode mX8_taste.2.2.1 68 = .ok (.invokevirtual 92, 3) := by decide +kernel
theorem dX8_taste_71 : decode mX8_taste.2.2.1 71 = .ok (.aload_n 0, 1) := by decide +kernel
theorem dX8_taste_72 : decode mX8_taste.2.2.1 72 = .ok (.getfield 7, 3) := by decide +kernel
theorem dX8_taste_75 : decode mX8_taste.2.2.1 75 = .ok (.bipush 9, 2) := by decide +kernel
theorem dX8_taste_77 : decode mX8_taste.2.2.1 77 = .ok (.bipush 20, 2) := by decide +kernel
theorem dX8_taste_79 : decode mX8_taste.2.2.1 79 = .ok (.iload_n 1, 1) := by decide +kernel
theorem dX8_taste_80 : decode mX8_taste.2.2.1 80 = .ok (.imul, 1) := by decide +kernel
theorem dX8_taste_81 : decode mX8_taste.2.2.1 81 = .ok (.iadd, 1) := by decide +kernel
theorem dX8_taste_82 : decode mX8_taste.2.2.1 82 = .ok (.iconst 2, 1) := by decide +kernel
theorem dX8_taste_83 : decode mX8_taste.2.2.1 83 = .ok (.iadd, 1) := by decide +kernel
theorem dX8_taste_84 : decode mX8_taste.2.2.1 84 = .ok (.dup2, 1) := by decide +kernel
theorem dX8_taste_85 : decode mX8_taste.2.2.1 85 = .ok (.iaload, 1) := by decide +kernel
theorem dX8_taste_86 : decode mX8_taste.2.2.1 86 = .ok (.iload_n 2, 1) := by decide +kernel
theorem dX8_taste_87 : decode mX8_taste.2.2.1 87 = .ok (.iadd, 1) := by decide +kernel
theorem dX8_taste_88 : decode mX8_taste.2.2.1 88 = .ok (.iastore, 1) := by decide +kernel
theorem dX8_taste_89 : decode mX8_taste.2.2.1 89 = .ok (.aload_n 0, 1) := by decide +kernel
theorem dX8_taste_90 : decode mX8_taste.2.2.1 90 = .ok (.getfield 7, 3) := by decide +kernel
theorem dX8_taste_93 : decode mX8_taste.2.2.1 93 = .ok (.bipush 9, 2) := by decide +kernel
theorem dX8_taste_95 : decode mX8_taste.2.2.1 95 = .ok (.bipush 20, 2) := by decide +kernel
theorem dX8_taste_97 : decode mX8_taste.2.2.1 97 = .ok (.iload_n 1, 1) := by decide +kernel
theorem dX8_taste_98 : decode mX8_taste.2.2.1 98 = .ok (.imul, 1) := by decide +kernel
theorem dX8_taste_99 : decode mX8_taste.2.2.1 99 = .ok (.iadd, 1) := by decide +kernel
theorem dX8_taste_100 : decode mX8_taste.2.2.1 100 = .ok (.iconst 3, 1) := by decide +kernel
theorem dX8_taste_101 : decode mX8_taste.2.2.1 101 = .ok (.iadd, 1) := by decide +kernel
theorem dX8_taste_102 : decode mX8_taste.2.2.1 102 = .ok (.dup2, 1) := by decide +kernel
theorem dX8_taste_103 : decode mX8_taste.2.2.1 103 = .ok (.iaload, 1) := by decide +kernel
theorem dX8_taste_104 : decode mX8_taste.2.2.1 104 = .ok (.iconst 1, 1) := by decide +kernel
theorem dX8_taste_105 : decode mX8_taste.2.2.1 105 = .ok (.iadd, 1) := by decide +kernel
theorem dX8_taste_106 : decode mX8_taste.2.2.1 106 = .ok (.iastore, 1) := by decide +kernel
theorem dX8_taste_107 : decode mX8_taste.2.2.1 107 = .ok (.aload_n 0, 1) := by decide +kernel
theorem dX8_taste_108 : decode mX8_taste.2.2.1 108 = .ok (.iload_n 1, 1) := by decide +kernel
theorem dX8_taste_109 : decode mX8_taste.2.2.1 109 = .ok (.invokevirtual 95, 3) := by decide +kernel
theorem dX8_taste_112 : decode mX8_taste.2.2.1 112 = .ok (.ireturn, 1) := by decide +kernel
theorem dX8_top_0 : decode mX8_top.2.2.1 0 = .ok (.aload_n 0, 1) := by decide +kernel
theorem dX8_top_1 : decode mX8_top.2.2.1 1 = .ok (.iload_n 1, 1) := by decide +kernel
theorem dX8_top_2 : decode mX8_top.2.2.1 2 = .ok (.invokevirtual 81, 3) := by decide +kernel
theorem dX8_top_5 : decode mX8_top.2.2.1 5 = .ok (.ifCond .ne 6, 3) := by decide +kernel
theorem dX8_top_8 : decode mX8_top.2.2.1 8 = .ok (.ldc 76, 2) := by decide +kernel
theorem dX8_top_10 : decode mX8_top.2.2.1 10 = .ok (.ireturn, 1) := by decide +kernel
theorem dX8_top_11 : decode mX8_top.2.2.1 11 = .ok (.aload_n 0, 1) := by decide +kernel
theorem dX8_top_12 : decode mX8_top.2.2.1 12 = .ok (.iload_n 1, 1) := by decide +kernel
theorem dX8_top_13 : decode mX8_top.2.2.1 13 = .ok (.invokevirtual 62, 3) := by decide +kernel
theorem dX8_top_16 : decode mX8_top.2.2.1 16 = .ok (.aload_n 0, 1) := by decide +kernel
theorem dX8_top_17 : decode mX8_top.2.2.1 17 = .ok (.iload_n 1, 1) := by decide +kernel
theorem dX8_top_18 : decode mX8_top.2.2.1 18 = .ok (.invokevirtual 85, 3) := by decide +kernel
theorem dX8_top_21 : decode mX8_top.2.2.1 21 = .ok (.ifCond .eq 10, 3) := by decide +kernel
theorem dX8_top_24 : decode mX8_top.2.2.1 24 = .ok (.aload_n 0, 1) := by decide +kernel
theorem dX8_top_25 : decode mX8_top.2.2.1 25 = .ok (.invokevirtual 69, 3) := by decide +kernel
theorem dX8_top_28 : decode mX8_top.2.2.1 28 = .ok (.ifCond .ge 6, 3) := by decide +kernel
theorem dX8_top_31 : decode mX8_top.2.2.1 31 = .ok (.ldc 91, 2) := by decide +kernel
theorem dX8_top_33 : decode mX8_top.2.2.1 33 = .ok (.ireturn, 1) := by decide +kernel
theorem dX8_top_34 : decode mX8_top.2.2.1 34 = .ok (.aload_n 0, 1) := by decide +kernel
theorem dX8_top_35 : decode mX8_top.2.2.1 35 = .ok (.invokevirtual 78, 3) := by decide +kernel
theorem dX8_top_38 : decode mX8_top.2.2.1 38 = .ok (.aload_n 0, 1) := by decide +kernel
theorem dX8_top_39 : decode mX8_top.2.2.1 39 = .ok (.invokevirtual 98, 3) := by decide +kernel
theorem dX8_top_42 : decode mX8_top.2.2.1 42 = .ok (.aload_n 0, 1) := by decide +kernel
theorem dX8_top_43 : decode mX8_top.2.2.1 43 = .ok (.iload_n 1, 1) := by decide +kernel
theorem dX8_top_44 : decode mX8_top.2.2.1 44 = .ok (.invokevirtual 92, 3) := by decide +kernel
theorem dX8_top_47 : decode mX8_top.2.2.1 47 = .ok (.aload_n 0, 1) := by decide +kernel
theorem dX8_top_48 : decode mX8_top.2.2.1 48 = .ok (.getfield 47, 3) := by decide +kernel
theorem dX8_top_51 : decode mX8_top.2.2.1 51 = .ok (.ireturn, 1) := by decide +kernel
theorem dX8_passes_0 : decode mX8_passes.2.2.1 0 = .ok (.iconst 0, 1) := by decide +kernel
theorem dX8_passes_1 : decode mX8_passes.2.2.1 1 = .ok (.istore_n 1, 1) := by decide +kernel
theorem dX8_passes_2 : decode mX8_passes.2.2.1 2 = .ok (.iconst 0, 1) := by decide +kernel
theorem dX8_passes_3 : decode mX8_passes.2.2.1 3 = .ok (.istore_n 2, 1) := by decide +kernel
theorem dX8_passes_4 : decode mX8_passes.2.2.1 4 = .ok (.iload_n 2, 1) := by decide +kernel
theorem dX8_passes_5 : decode mX8_passes.2.2.1 5 = .ok (.aload_n 0, 1) := by decide +kernel
theorem dX8_passes_6 : decode mX8_passes.2.2.1 6 = .ok (.getfield 7, 3) := by decide +kernel
theorem dX8_passes_9 : decode mX8_passes.2.2.1 9 = .ok (.iconst 0, 1) := by decide +kernel
theorem dX8_passes_10 : decode mX8_passes.2.2.1 10 = .ok (.iaload, 1) := by decide +kernel
theorem dX8_passes_11 : decode mX8_passes.2.2.1 11 = .ok (.if_icmp .ge 40, 3) := by decide +kernel
theorem dX8_passes_14 : decode mX8_passes.2.2.1 14 = .ok (.aload_n 0, 1) := by decide +kernel
theorem dX8_passes_15 : decode mX8_passes.2.2.1 15 = .ok (.iload_n 2, 1) := by decide +kernel
theorem dX8_passes_16 : decode mX8_passes.2.2.1 16 = .ok (.invokevirtual 85, 3) := by decide +kernel
theorem dX8_passes_19 : decode mX8_passes.2.2.1 19 = .ok (.ifCond .eq 26, 3) := by decide +kernel
theorem dX8_passes_22 : decode mX8_passes.2.2.1 22 = .ok (.aload_n 0, 1) := by decide +kernel
theorem dX8_passes_23 : decode mX8_passes.2.2.1 23 = .ok (.iload_n 2, 1) := by decide +kernel
theorem dX8_passes_24 : decode mX8_passes.2.2.1 24 = .ok (.invokevirtual 62, 3) := by decide +kernel
theorem dX8_passes_27 : decode mX8_passes.2.2.1 27 = .ok (.iload_n 1, 1) := by decide +kernel
theorem dX8_passes_28 : decode mX8_passes.2.2.1 28 = .ok (.aload_n 0, 1) := by decide +kernel
theorem dX8_passes_29 : decode mX8_passes.2.2.1 29 = .ok (.aload_n 0, 1) := by decide +kernel
theorem dX8_passes_30 : decode mX8_passes.2.2.1 30 = .ok (.iload_n 2, 1) := by decide +kernel
theorem dX8_passes_31 : decode mX8_passes.2.2.1 31 = .ok (.iconst 1, 1) := by decide +kernel
theorem dX8_passes_32 : decode mX8_passes.2.2.1 32 = .ok (.invokevirtual 36, 3) := by decide +kernel
theorem dX8_passes_35 : decode mX8_passes.2.2.1 35 = .ok (.invokevirtual 53, 3) := by decide +kernel
theorem dX8_passes_38 : decode mX8_passes.2.2.1 38 = .ok (.iadd, 1) := by decide +kernel
theorem dX8_passes_39 : decode mX8_passes.2.2.1 39 = .ok (.istore_n 1, 1) := by decide +kernel
theorem dX8_passes_40 : decode mX8_passes.2.2.1 40 = .ok (.aload_n 0, 1) := by decide +kernel
theorem dX8_passes_41 : decode mX8_passes.2.2.1 41 = .ok (.iload_n 2, 1) := by decide +kernel
theorem dX8_passes_42 : decode mX8_passes.2.2.1 42 = .ok (.invokevirtual 92, 3) := by decide +kernel
theorem dX8_passes_45 : decode mX8_passes.2.2.1 45 = .ok (.iinc 2 1, 3) := by decide +kernel
theorem dX8_passes_48 : decode mX8_passes.2.2.1 48 = .ok (.goto (-44), 3) := by decide +kernel
theorem dX8_passes_51 : decode mX8_passes.2.2.1 51 = .ok (.aload_n 0, 1) := by decide +kernel
theorem dX8_passes_52 : decode mX8_passes.2.2.1 52 = .ok (.getfield 7, 3) := by decide +kernel
theorem dX8_passes_55 : decode mX8_passes.2.2.1 55 = .ok (.iconst 2, 1) := by decide +kernel
theorem dX8_passes_56 : decode mX8_passes.2.2.1 56 = .ok (.dup2, 1) := by decide +kernel
theorem dX8_passes_57 : decode mX8_passes.2.2.1 57 = .ok (.iaload, 1) := by decide +kernel
theorem dX8_passes_58 : decode mX8_passes.2.2.1 58 = .ok (.iconst 1, 1) := by decide +kernel
theorem dX8_passes_59 : decode mX8_passes.2.2.1 59 = .ok (.iadd, 1) := by decide +kernel
theorem dX8_passes_60 : decode mX8_passes.2.2.1 60 = .ok (.iastore, 1) := by decide +kernel
theorem dX8_passes_61 : decode mX8_passes.2.2.1 61 = .ok (.iload_n 1, 1) := by decide +kernel
theorem dX8_passes_62 : decode mX8_passes.2.2.1 62 = .ok (.ireturn, 1) := by decide +kernel
theorem dX8_pass_0 : decode mX8_pass.2.2.1 0 = .ok (.iload_n 1, 1) := by decide +kernel
theorem dX8_pass_1 : decode mX8_pass.2.2.1 1 = .ok (.iconst 1, 1) := by decide +kernel
theorem dX8_pass_2 : decode mX8_pass.2.2.1 2 = .ok (.bipush 60, 2) := by decide +kernel
theorem dX8_pass_4 : decode mX8_pass.2.2.1 4 = .ok (.invokestatic 72, 3) := by decide +kernel
theorem dX8_pass_7 : decode mX8_pass.2.2.1 7 = .ok (.ifCond .ne 6, 3) := by decide +kernel
theorem dX8_pass_10 : decode mX8_pass.2.2.1 10 = .ok (.ldc 76, 2) := by decide +kernel
theorem dX8_pass_12 : decode mX8_pass.2.2.1 12 = .ok (.ireturn, 1) := by decide +kernel
theorem dX8_pass_13 : decode mX8_pass.2.2.1 13 = .ok (.aload_n 0, 1) := by decide +kernel
theorem dX8_pass_14 : decode mX8_pass.2.2.1 14 = .ok (.getfield 7, 3) := by decide +kernel
theorem dX8_pass_17 : decode mX8_pass.2.2.1 17 = .ok (.iconst 2, 1) := by decide +kernel
theorem dX8_pass_18 : decode mX8_pass.2.2.1 18 = .ok (.iaload, 1) := by decide +kernel
theorem dX8_pass_19 : decode mX8_pass.2.2.1 19 = .ok (.iload_n 1, 1) := by decide +kernel
theorem dX8_pass_20 : decode mX8_pass.2.2.1 20 = .ok (.iadd, 1) := by decide +kernel
theorem dX8_pass_21 : decode mX8_pass.2.2.1 21 = .ok (.sipush 999, 3) := by decide +kernel
theorem dX8_pass_24 : decode mX8_pass.2.2.1 24 = .ok (.if_icmp .le 6, 3) := by decide +kernel
theorem dX8_pass_27 : decode mX8_pass.2.2.1 27 = .ok (.ldc 77, 2) := by decide +kernel
theorem dX8_pass_29 : decode mX8_pass.2.2.1 29 = .ok (.ireturn, 1) := by decide +kernel
theorem dX8_pass_30 : decode mX8_pass.2.2.1 30 = .ok (.aload_n 0, 1) := by decide +kernel
theorem dX8_pass_31 : decode mX8_pass.2.2.1 31 = .ok (.invokevirtual 78, 3) := by decide +kernel
theorem dX8_pass_34 : decode mX8_pass.2.2.1 34 = .ok (.iconst 0, 1) := by decide +kernel
theorem dX8_pass_35 : decode mX8_pass.2.2.1 35 = .ok (.istore_n 2, 1) := by decide +kernel
theorem dX8_pass_36 : decode mX8_pass.2.2.1 36 = .ok (.iconst 0, 1) := by decide +kernel
theorem dX8_pass_37 : decode mX8_pass.2.2.1 37 = .ok (.istore_n 3, 1) := by decide +kernel
theorem dX8_pass_38 : decode mX8_pass.2.2.1 38 = .ok (.iload_n 3, 1) := by decide +kernel
theorem dX8_pass_39 : decode mX8_pass.2.2.1 39 = .ok (.iload_n 1, 1) := by decide +kernel
theorem dX8_pass_40 : decode mX8_pass.2.2.1 40 = .ok (.if_icmp .ge 16, 3) := by decide +kernel
theorem dX8_pass_43 : decode mX8_pass.2.2.1 43 = .ok (.iload_n 2, 1) := by decide +kernel
theorem dX8_pass_44 : decode mX8_pass.2.2.1 44 = .ok (.aload_n 0, 1) := by decide +kernel
theorem dX8_pass_45 : decode mX8_pass.2.2.1 45 = .ok (.invokevirtual 101, 3) := by decide +kernel
theorem dX8_pass_48 : decode mX8_pass.2.2.1 48 = .ok (.iadd, 1) := by decide +kernel
theorem dX8_pass_49 : decode mX8_pass.2.2.1 49 = .ok (.istore_n 2, 1) := by decide +kernel
theorem dX8_pass_50 : decode mX8_pass.2.2.1 50 = .ok (.iinc 3 1, 3) := by decide +kernel
theorem dX8_pass_53 : decode mX8_pass.2.2.1 53 = .ok (.goto (-15), 3) := by decide +kernel
theorem dX8_pass_56 : decode mX8_pass.2.2.1 56 = .ok (.aload_n 0, 1) := by decide +kernel
theorem dX8_pass_57 : decode mX8_pass.2.2.1 57 = .ok (.getfield 7, 3) := by decide +kernel
theorem dX8_pass_60 : decode mX8_pass.2.2.1 60 = .ok (.iconst 3, 1) := by decide +kernel
theorem dX8_pass_61 : decode mX8_pass.2.2.1 61 = .ok (.dup2, 1) := by decide +kernel
theorem dX8_pass_62 : decode mX8_pass.2.2.1 62 = .ok (.iaload, 1) := by decide +kernel
theorem dX8_pass_63 : decode mX8_pass.2.2.1 63 = .ok (.iload_n 2, 1) := by decide +kernel
theorem dX8_pass_64 : decode mX8_pass.2.2.1 64 = .ok (.iadd, 1) := by decide +kernel
theorem dX8_pass_65 : decode mX8_pass.2.2.1 65 = .ok (.iastore, 1) := by decide +kernel
theorem dX8_pass_66 : decode mX8_pass.2.2.1 66 = .ok (.iload_n 2, 1) := by decide +kernel
theorem dX8_pass_67 : decode mX8_pass.2.2.1 67 = .ok (.ireturn, 1) := by decide +kernel
theorem dX8_enters_0 : decode mX8_enters.2.2.1 0 = .ok (.sipush 315, 3) := by decide +kernel
theorem dX8_enters_3 : decode mX8_enters.2.2.1 3 = .ok (.istore 7, 2) := by decide +kernel
theorem dX8_enters_5 : decode mX8_enters.2.2.1 5 = .ok (.iload 7, 2) := by decide +kernel
theorem dX8_enters_7 : decode mX8_enters.2.2.1 7 = .ok (.sipush 250, 3) := by decide +kernel
theorem dX8_enters_10 : decode mX8_enters.2.2.1 10 = .ok (.if_icmp .lt 26, 3) := by decide +kernel
theorem dX8_enters_13 : decode mX8_enters.2.2.1 13 = .ok (.aload_n 0, 1) := by decide +kernel
theorem dX8_enters_14 : decode mX8_enters.2.2.1 14 = .ok (.getfield 7, 3) := by decide +kernel
theorem dX8_enters_17 : decode mX8_enters.2.2.1 17 = .ok (.iload 7, 2) := by decide +kernel
theorem dX8_enters_19 : decode mX8_enters.2.2.1 19 = .ok (.aload_n 0, 1) := by decide +kernel
theorem dX8_enters_20 : decode mX8_enters.2.2.1 20 = .ok (.getfield 7, 3) := by decide +kernel
theorem dX8_enters_23 : decode mX8_enters.2.2.1 23 = .ok (.iload 7, 2) := by decide +kernel
theorem dX8_enters_25 : decode mX8_enters.2.2.1 25 = .ok (.bipush 6, 2) := by decide +kernel
theorem dX8_enters_27 : decode mX8_enters.2.2.1 27 = .ok (.isub, 1) := by decide +kernel
theorem dX8_enters_28 : decode mX8_enters.2.2.1 28 = .ok (.iaload, 1) := by decide +kernel
theorem dX8_enters_29 : decode mX8_enters.2.2.1 29 = .ok (.iastore, 1) := by decide +kernel
theorem dX8_enters_30 : decode mX8_enters.2.2.1 30 = .ok (.iinc 7 (-1), 3) := by decide +kernel
theorem dX8_enters_33 : decode mX8_enters.2.2.1 33 = .ok (.goto (-28), 3) := by decide +kernel
theorem dX8_enters_36 : decode mX8_enters.2.2.1 36 = .ok (.aload_n 0, 1) := by decide +kernel
theorem dX8_enters_37 : decode mX8_enters.2.2.1 37 = .ok (.getfield 7, 3) := by decide +kernel
theorem dX8_enters_40 : decode mX8_enters.2.2.1 40 = .ok (.sipush 244, 3) := by decide +kernel
theorem dX8_enters_43 : decode mX8_enters.2.2.1 43 = .ok (.iload_n 1, 1) := by decide +kernel
theorem dX8_enters_44 : decode mX8_enters.2.2.1 44 = .ok (.iastore, 1) := by decide +kernel
theorem dX8_enters_45 : decode mX8_enters.2.2.1 45 = .ok (.aload_n 0, 1) := by decide +kernel
theorem dX8_enters_46 : decode mX8_enters.2.2.1 46 = .ok (.getfield 7, 3) := by decide +kernel
theorem dX8_enters_49 : decode mX8_enters.2.2.1 49 = .ok (.sipush 245, 3) := by decide +kernel
theorem dX8_enters_52 : decode mX8_enters.2.2.1 52 = .ok (.iload_n 2, 1) := by decide +kernel
theorem dX8_enters_53 : decode mX8_enters.2.2.1 53 = .ok (.iastore, 1) := by decide +kernel
theorem dX8_enters_54 : decode mX8_enters.2.2.1 54 = .ok (.aload_n 0, 1) := by decide +kernel
theorem dX8_enters_55 : decode mX8_enters.2.2.1 55 = .ok (.getfield 7, 3) := by decide +kernel
theorem dX8_enters_58 : decode mX8_enters.2.2.1 58 = .ok (.sipush 246, 3) := by decide +kernel
theorem dX8_enters_61 : decode mX8_enters.2.2.1 61 = .ok (.iload_n 3, 1) := by decide +kernel
theorem dX8_enters_62 : decode mX8_enters.2.2.1 62 = .ok (.iastore, 1) := by decide +kernel
theorem dX8_enters_63 : decode mX8_enters.2.2.1 63 = .ok (.aload_n 0, 1) := by decide +kernel
theorem dX8_enters_64 : decode mX8_enters.2.2.1 64 = .ok (.getfield 7, 3) := by decide +kernel
theorem dX8_enters_67 : decode mX8_enters.2.2.1 67 = .ok (.sipush 247, 3) := by decide +kernel
theorem dX8_enters_70 : decode mX8_enters.2.2.1 70 = .ok (.iload 4, 2) := by decide +kernel
theorem dX8_enters_72 : decode mX8_enters.2.2.1 72 = .ok (.iastore, 1) := by decide +kernel
theorem dX8_enters_73 : decode mX8_enters.2.2.1 73 = .ok (.aload_n 0, 1) := by decide +kernel
theorem dX8_enters_74 : decode mX8_enters.2.2.1 74 = .ok (.getfield 7, 3) := by decide +kernel
theorem dX8_enters_77 : decode mX8_enters.2.2.1 77 = .ok (.sipush 248, 3) := by decide +kernel
theorem dX8_enters_80 : decode mX8_enters.2.2.1 80 = .ok (.iload 5, 2) := by decide +kernel
theorem dX8_enters_82 : decode mX8_enters.2.2.1 82 = .ok (.iastore, 1) := by decide +kernel
theorem dX8_enters_83 : decode mX8_enters.2.2.1 83 = .ok (.aload_n 0, 1) := by decide +kernel
theorem dX8_enters_84 : decode mX8_enters.2.2.1 84 = .ok (.getfield 7, 3) := by decide +kernel
theorem dX8_enters_87 : decode mX8_enters.2.2.1 87 = .ok (.sipush 249, 3) := by decide +kernel
theorem dX8_enters_90 : decode mX8_enters.2.2.1 90 = .ok (.iload 6, 2) := by decide +kernel
theorem dX8_enters_92 : decode mX8_enters.2.2.1 92 = .ok (.iastore, 1) := by decide +kernel
theorem dX8_enters_93 : decode mX8_enters.2.2.1 93 = .ok (.aload_n 0, 1) := by decide +kernel
theorem dX8_enters_94 : decode mX8_enters.2.2.1 94 = .ok (.getfield 7, 3) := by decide +kernel
theorem dX8_enters_97 : decode mX8_enters.2.2.1 97 = .ok (.bipush 6, 2) := by decide +kernel
theorem dX8_enters_99 : decode mX8_enters.2.2.1 99 = .ok (.aload_n 0, 1) := by decide +kernel
theorem dX8_enters_100 : decode mX8_enters.2.2.1 100 = .ok (.getfield 7, 3) := by decide +kernel
theorem dX8_enters_103 : decode mX8_enters.2.2.1 103 = .ok (.bipush 6, 2) := by decide +kernel
theorem dX8_enters_105 : decode mX8_enters.2.2.1 105 = .ok (.iaload, 1) := by decide +kernel
theorem dX8_enters_106 : decode mX8_enters.2.2.1 106 = .ok (.bipush 12, 2) := by decide +kernel
theorem dX8_enters_108 : decode mX8_enters.2.2.1 108 = .ok (.if_icmp .ge 15, 3) := by decide +kernel
theorem dX8_enters_111 : decode mX8_enters.2.2.1 111 = .ok (.aload_n 0, 1) := by decide +kernel
theorem dX8_enters_112 : decode mX8_enters.2.2.1 112 = .ok (.getfield 7, 3) := by decide +kernel
theorem dX8_enters_115 : decode mX8_enters.2.2.1 115 = .ok (.bipush 6, 2) := by decide +kernel
theorem dX8_enters_117 : decode mX8_enters.2.2.1 117 = .ok (.iaload, 1) := by decide +kernel
theorem dX8_enters_118 : decode mX8_enters.2.2.1 118 = .ok (.iconst 1, 1) := by decide +kernel
theorem dX8_enters_119 : decode mX8_enters.2.2.1 119 = .ok (.iadd, 1) := by decide +kernel
theorem dX8_enters_120 : decode mX8_enters.2.2.1 120 = .ok (.goto 5, 3) := by decide +kernel
theorem dX8_enters_123 : decode mX8_enters.2.2.1 123 = .ok (.bipush 12, 2) := by decide +kernel
theorem dX8_enters_125 : decode mX8_enters.2.2.1 125 = .ok (.iastore, 1) := by decide +kernel
theorem dX8_enters_126 : decode mX8_enters.2.2.1 126 = .ok (.return_, 1) := by decide +kernel
theorem dX8_goes_0 : decode mX8_goes.2.2.1 0 = .ok (.aload_n 0, 1) := by decide +kernel
theorem dX8_goes_1 : decode mX8_goes.2.2.1 1 = .ok (.getfield 7, 3) := by decide +kernel
theorem dX8_goes_4 : decode mX8_goes.2.2.1 4 = .ok (.iload_n 1, 1) := by decide +kernel
theorem dX8_goes_5 : decode mX8_goes.2.2.1 5 = .ok (.iload_n 2, 1) := by decide +kernel
theorem dX8_goes_6 : decode mX8_goes.2.2.1 6 = .ok (.iconst 1, 1) := by decide +kernel
theorem dX8_goes_7 : decode mX8_goes.2.2.1 7 = .ok (.invokestatic 40, 3) := by decide +kernel
theorem dX8_goes_10 : decode mX8_goes.2.2.1 10 = .ok (.iaload, 1) := by decide +kernel
theorem dX8_goes_11 : decode mX8_goes.2.2.1 11 = .ok (.iload_n 3, 1) := by decide +kernel
theorem dX8_goes_12 : decode mX8_goes.2.2.1 12 = .ok (.imul, 1) := by decide +kernel
theorem dX8_goes_13 : decode mX8_goes.2.2.1 13 = .ok (.aload_n 0, 1) := by decide +kernel
theorem dX8_goes_14 : decode mX8_goes.2.2.1 14 = .ok (.iload_n 1, 1) := by decide +kernel
theorem dX8_goes_15 : decode mX8_goes.2.2.1 15 = .ok (.iload_n 2, 1) := by decide +kernel
theorem dX8_goes_16 : decode mX8_goes.2.2.1 16 = .ok (.invokevirtual 44, 3) := by decide +kernel
theorem dX8_goes_19 : decode mX8_goes.2.2.1 19 = .ok (.idiv, 1) := by decide +kernel
theorem dX8_goes_20 : decode mX8_goes.2.2.1 20 = .ok (.istore 4, 2) := by decide +kernel
theorem dX8_goes_22 : decode mX8_goes.2.2.1 22 = .ok (.aload_n 0, 1) := by decide +kernel
theorem dX8_goes_23 : decode mX8_goes.2.2.1 23 = .ok (.getfield 7, 3) := by decide +kernel
theorem dX8_goes_26 : decode mX8_goes.2.2.1 26 = .ok (.iload_n 1, 1) := by decide +kernel
theorem dX8_goes_27 : decode mX8_goes.2.2.1 27 = .ok (.iload_n 2, 1) := by decide +kernel
theorem dX8_goes_28 : decode mX8_goes.2.2.1 28 = .ok (.iconst 1, 1) := by decide +kernel
theorem dX8_goes_29 : decode mX8_goes.2.2.1 29 = .ok (.invokestatic 40, 3) := by decide +kernel
theorem dX8_goes_32 : decode mX8_goes.2.2.1 32 = .ok (.dup2, 1) := by decide +kernel
theorem dX8_goes_33 : decode mX8_goes.2.2.1 33 = .ok (.iaload, 1) := by decide +kernel
theorem dX8_goes_34 : decode mX8_goes.2.2.1 34 = .ok (.iload 4, 2) := by decide +kernel
theorem dX8_goes_36 : decode mX8_goes.2.2.1 36 = .ok (.isub, 1) := by decide +kernel
theorem dX8_goes_37 : decode mX8_goes.2.2.1 37 = .ok (.iastore, 1) := by decide +kernel
theorem dX8_goes_38 : decode mX8_goes.2.2.1 38 = .ok (.aload_n 0, 1) := by decide +kernel
theorem dX8_goes_39 : decode mX8_goes.2.2.1 39 = .ok (.getfield 7, 3) := by decide +kernel
theorem dX8_goes_42 : decode mX8_goes.2.2.1 42 = .ok (.iload_n 1, 1) := by decide +kernel
theorem dX8_goes_43 : decode mX8_goes.2.2.1 43 = .ok (.iload_n 2, 1) := by decide +kernel
theorem dX8_goes_44 : decode mX8_goes.2.2.1 44 = .ok (.iconst 0, 1) := by decide +kernel
theorem dX8_goes_45 : decode mX8_goes.2.2.1 45 = .ok (.invokestatic 40, 3) := by decide +kernel
theorem dX8_goes_48 : decode mX8_goes.2.2.1 48 = .ok (.dup2, 1) := by decide +kernel
theorem dX8_goes_49 : decode mX8_goes.2.2.1 49 = .ok (.iaload, 1) := by decide +kernel
theorem dX8_goes_50 : decode mX8_goes.2.2.1 50 = .ok (.iload_n 3, 1) := by decide +kernel
theorem dX8_goes_51 : decode mX8_goes.2.2.1 51 = .ok (.isub, 1) := by decide +kernel
theorem dX8_goes_52 : decode mX8_goes.2.2.1 52 = .ok (.iastore, 1) := by decide +kernel
theorem dX8_goes_53 : decode mX8_goes.2.2.1 53 = .ok (.iload 4, 2) := by decide +kernel
theorem dX8_goes_55 : decode mX8_goes.2.2.1 55 = .ok (.ireturn, 1) := by decide +kernel
theorem dX8_wouldCut_0 : decode mX8_wouldCut.2.2.1 0 = .ok (.iload 4, 2) := by decide +kernel
theorem dX8_wouldCut_2 : decode mX8_wouldCut.2.2.1 2 = .ok (.iload_n 3, 1) := by decide +kernel
theorem dX8_wouldCut_3 : decode mX8_wouldCut.2.2.1 3 = .ok (.if_icmp .le 24, 3) := by decide +kernel
theorem dX8_wouldCut_6 : decode mX8_wouldCut.2.2.1 6 = .ok (.aload_n 0, 1) := by decide +kernel
theorem dX8_wouldCut_7 : decode mX8_wouldCut.2.2.1 7 = .ok (.iload_n 1, 1) := by decide +kernel
theorem dX8_wouldCut_8 : decode mX8_wouldCut.2.2.1 8 = .ok (.iload_n 2, 1) := by decide +kernel
theorem dX8_wouldCut_9 : decode mX8_wouldCut.2.2.1 9 = .ok (.invokevirtual 44, 3) := by decide +kernel
theorem dX8_wouldCut_12 : decode mX8_wouldCut.2.2.1 12 = .ok (.aload_n 0, 1) := by decide +kernel
theorem dX8_wouldCut_13 : decode mX8_wouldCut.2.2.1 13 = .ok (.iload_n 1, 1) := by decide +kernel
theorem dX8_wouldCut_14 : decode mX8_wouldCut.2.2.1 14 = .ok (.iload_n 2, 1) := by decide +kernel
theorem dX8_wouldCut_15 : decode mX8_wouldCut.2.2.1 15 = .ok (.invokevirtual 44, 3) := by decide +kernel
theorem dX8_wouldCut_18 : decode mX8_wouldCut.2.2.1 18 = .ok (.iload_n 3, 1) := by decide +kernel
theorem dX8_wouldCut_19 : decode mX8_wouldCut.2.2.1 19 = .ok (.imul, 1) := by decide +kernel
theorem dX8_wouldCut_20 : decode mX8_wouldCut.2.2.1 20 = .ok (.iload 4, 2) := by decide +kernel
theorem dX8_wouldCut_22 : decode mX8_wouldCut.2.2.1 22 = .ok (.idiv, 1) := by decide +kernel
theorem dX8_wouldCut_23 : decode mX8_wouldCut.2.2.1 23 = .ok (.isub, 1) := by decide +kernel
theorem dX8_wouldCut_24 : decode mX8_wouldCut.2.2.1 24 = .ok (.goto 4, 3) := by decide +kernel
theorem dX8_wouldCut_27 : decode mX8_wouldCut.2.2.1 27 = .ok (.iconst 0, 1) := by decide +kernel
theorem dX8_wouldCut_28 : decode mX8_wouldCut.2.2.1 28 = .ok (.ireturn, 1) := by decide +kernel
theorem dX8_bottle_0 : decode mX8_bottle.2.2.1 0 = .ok (.aload_n 0, 1) := by decide +kernel
theorem dX8_bottle_1 : decode mX8_bottle.2.2.1 1 = .ok (.iload_n 1, 1) := by decide +kernel
theorem dX8_bottle_2 : decode mX8_bottle.2.2.1 2 = .ok (.invokevirtual 81, 3) := by decide +kernel
theorem dX8_bottle_5 : decode mX8_bottle.2.2.1 5 = .ok (.ifCond .ne 6, 3) := by decide +kernel
theorem dX8_bottle_8 : decode mX8_bottle.2.2.1 8 = .ok (.ldc 76, 2) := by decide +kernel
theorem dX8_bottle_10 : decode mX8_bottle.2.2.1 10 = .ok (.ireturn, 1) := by decide +kernel
theorem dX8_bottle_11 : decode mX8_bottle.2.2.1 11 = .ok (.aload_n 0, 1) := by decide +kernel
theorem dX8_bottle_12 : decode mX8_bottle.2.2.1 12 = .ok (.iload_n 1, 1) := by decide +kernel
theorem dX8_bottle_13 : decode mX8_bottle.2.2.1 13 = .ok (.invokevirtual 85, 3) := by decide +kernel
theorem dX8_bottle_16 : decode mX8_bottle.2.2.1 16 = .ok (.ifCond .ne 6, 3) := by decide +kernel
theorem dX8_bottle_19 : decode mX8_bottle.2.2.1 19 = .ok (.ldc 91, 2) := by decide +kernel
theorem dX8_bottle_21 : decode mX8_bottle.2.2.1 21 = .ok (.ireturn, 1) := by decide +kernel
theorem dX8_bottle_22 : decode mX8_bottle.2.2.1 22 = .ok (.aload_n 0, 1) := by decide +kernel
theorem dX8_bottle_23 : decode mX8_bottle.2.2.1 23 = .ok (.invokevirtual 78, 3) := by decide +kernel
theorem dX8_bottle_26 : decode mX8_bottle.2.2.1 26 = .ok (.aload_n 0, 1) := by decide +kernel
theorem dX8_bottle_27 : decode mX8_bottle.2.2.1 27 = .ok (.iload_n 1, 1) := by decide +kernel
theorem dX8_bottle_28 : decode mX8_bottle.2.2.1 28 = .ok (.invokevirtual 62, 3) := by decide +kernel
theorem dX8_bottle_31 : decode mX8_bottle.2.2.1 31 = .ok (.aload_n 0, 1) := by decide +kernel
theorem dX8_bottle_32 : decode mX8_bottle.2.2.1 32 = .ok (.invokevirtual 58, 3) := by decide +kernel
theorem dX8_bottle_35 : decode mX8_bottle.2.2.1 35 = .ok (.bipush 90, 2) := by decide +kernel
theorem dX8_bottle_37 : decode mX8_bottle.2.2.1 37 = .ok (.idiv, 1) := by decide +kernel
theorem dX8_bottle_38 : decode mX8_bottle.2.2.1 38 = .ok (.istore_n 2, 1) := by decide +kernel
theorem dX8_bottle_39 : decode mX8_bottle.2.2.1 39 = .ok (.aload_n 0, 1) := by decide +kernel
theorem dX8_bottle_40 : decode mX8_bottle.2.2.1 40 = .ok (.iload_n 1, 1) := by decide +kernel
theorem dX8_bottle_41 : decode mX8_bottle.2.2.1 41 = .ok (.invokevirtual 104, 3) := by decide +kernel
theorem dX8_bottle_44 : decode mX8_bottle.2.2.1 44 = .ok (.istore_n 3, 1) := by decide +kernel
theorem dX8_bottle_45 : decode mX8_bottle.2.2.1 45 = .ok (.iconst 0, 1) := by decide +kernel
theorem dX8_bottle_46 : decode mX8_bottle.2.2.1 46 = .ok (.istore 4, 2) := by decide +kernel
theorem dX8_bottle_48 : decode mX8_bottle.2.2.1 48 = .ok (.iconst 0, 1) := by decide +kernel
theorem dX8_bottle_49 : decode mX8_bottle.2.2.1 49 = .ok (.istore 5, 2) := by decide +kernel
theorem dX8_bottle_51 : decode mX8_bottle.2.2.1 51 = .ok (.iload 5, 2) := by decide +kernel
theorem dX8_bottle_53 : decode mX8_bottle.2.2.1 53 = .ok (.aload_n 0, 1) := by decide +kernel
theorem dX8_bottle_54 : decode mX8_bottle.2.2.1 54 = .ok (.getfield 7, 3) := by decide +kernel
theorem dX8_bottle_57 : decode mX8_bottle.2.2.1 57 = .ok (.iconst 1, 1) := by decide +kernel
theorem dX8_bottle_58 : decode mX8_bottle.2.2.1 58 = .ok (.iaload, 1) := by decide +kernel
theorem dX8_bottle_59 : decode mX8_bottle.2.2.1 59 = .ok (.if_icmp .ge 86, 3) := by decide +kernel
theorem dX8_bottle_62 : decode mX8_bottle.2.2.1 62 = .ok (.aload_n 0, 1) := by decide +kernel
theorem dX8_bottle_63 : decode mX8_bottle.2.2.1 63 = .ok (.iload 5, 2) := by decide +kernel
theorem dX8_bottle_65 : decode mX8_bottle.2.2.1 65 = .ok (.iload_n 1, 1) := by decide +kernel
theorem dX8_bottle_66 : decode mX8_bottle.2.2.1 66 = .ok (.iload_n 2, 1) := by decide +kernel
theorem dX8_bottle_67 : decode mX8_bottle.2.2.1 67 = .ok (.iload_n 3, 1) := by decide +kernel
theorem dX8_bottle_68 : decode mX8_bottle.2.2.1 68 = .ok (.invokevirtual 107, 3) := by decide +kernel
theorem dX8_bottle_71 : decode mX8_bottle.2.2.1 71 = .ok (.istore 6, 2) := by decide +kernel
theorem dX8_bottle_73 : decode mX8_bottle.2.2.1 73 = .ok (.iload 6, 2) := by decide +kernel
theorem dX8_bottle_75 : decode mX8_bottle.2.2.1 75 = .ok (.ifCond .le 64, 3) := by decide +kernel
theorem dX8_bottle_78 : decode mX8_bottle.2.2.1 78 = .ok (.aload_n 0, 1) := by decide +kernel
theorem dX8_bottle_79 : decode mX8_bottle.2.2.1 79 = .ok (.iload 5, 2) := by decide +kernel
theorem dX8_bottle_81 : decode mX8_bottle.2.2.1 81 = .ok (.iload_n 1, 1) := by decide +kernel
theorem dX8_bottle_82 : decode mX8_bottle.2.2.1 82 = .ok (.iload 6, 2) := by decide +kernel
theorem dX8_bottle_84 : decode mX8_bottle.2.2.1 84 = .ok (.invokevirtual 111, 3) := by decide +kernel
theorem dX8_bottle_87 : decode mX8_bottle.2.2.1 87 = .ok (.istore 7, 2) := by decide +kernel
theorem dX8_bottle_89 : decode mX8_bottle.2.2.1 89 = .ok (.aload_n 0, 1) := by decide +kernel
theorem dX8_bottle_90 : decode mX8_bottle.2.2.1 90 = .ok (.getfield 7, 3) := by decide +kernel
theorem dX8_bottle_93 : decode mX8_bottle.2.2.1 93 = .ok (.sipush 129, 3) := by decide +kernel
theorem dX8_bottle_96 : decode mX8_bottle.2.2.1 96 = .ok (.iload 5, 2) := by decide +kernel
theorem dX8_bottle_98 : decode mX8_bottle.2.2.1 98 = .ok (.iadd, 1) := by decide +kernel
theorem dX8_bottle_99 : decode mX8_bottle.2.2.1 99 = .ok (.dup2, 1) := by decide +kernel
theorem dX8_bottle_100 : decode mX8_bottle.2.2.1 100 = .ok (.iaload, 1) := by decide +kernel
theorem dX8_bottle_101 : decode mX8_bottle.2.2.1 101 = .ok (.iload 7, 2) := by decide +kernel
theorem dX8_bottle_103 : decode mX8_bottle.2.2.1 103 = .ok (.iadd, 1) := by decide +kernel
theorem dX8_bottle_104 : decode mX8_bottle.2.2.1 104 = .ok (.iastore, 1) := by decide +kernel
theorem dX8_bottle_105 : decode mX8_bottle.2.2.1 105 = .ok (.aload_n 0, 1) := by decide +kernel
theorem dX8_bottle_106 : decode mX8_bottle.2.2.1 106 = .ok (.getfield 7, 3) := by decide +kernel
theorem dX8_bottle_109 : decode mX8_bottle.2.2.1 109 = .ok (.sipush 135, 3) := by decide +kernel
theorem dX8_bottle_112 : decode mX8_bottle.2.2.1 112 = .ok (.dup2, 1) := by decide +kernel
theorem dX8_bottle_113 : decode mX8_bottle.2.2.1 113 = .ok (.iaload, 1) := by decide +kernel
theorem dX8_bottle_114 : decode mX8_bottle.2.2.1 114 = .ok (.iload 7, 2) := by decide +kernel
theorem dX8_bottle_116 : decode mX8_bottle.2.2.1 116 = .ok (.isub, 1) := by decide +kernel
theorem dX8_bottle_117 : decode mX8_bottle.2.2.1 117 = .ok (.iastore, 1) := by decide +kernel
theorem dX8_bottle_118 : decode mX8_bottle.2.2.1 118 = .ok (.aload_n 0, 1) := by decide +kernel
theorem dX8_bottle_119 : decode mX8_bottle.2.2.1 119 = .ok (.iconst 2, 1) := by decide +kernel
theorem dX8_bottle_120 : decode mX8_bottle.2.2.1 120 = .ok (.iload_n 1, 1) := by decide +kernel
theorem dX8_bottle_121 : decode mX8_bottle.2.2.1 121 = .ok (.iload 5, 2) := by decide +kernel
theorem dX8_bottle_123 : decode mX8_bottle.2.2.1 123 = .ok (.iload 6, 2) := by decide +kernel
theorem dX8_bottle_125 : decode mX8_bottle.2.2.1 125 = .ok (.iload 7, 2) := by decide +kernel
theorem dX8_bottle_127 : decode mX8_bottle.2.2.1 127 = .ok (.ldc 57, 2) := by decide +kernel
theorem dX8_bottle_129 : decode mX8_bottle.2.2.1 129 = .ok (.invokevirtual 114, 3) := by decide +kernel
theorem dX8_bottle_132 : decode mX8_bottle.2.2.1 132 = .ok (.iload 4, 2) := by decide +kernel
theorem dX8_bottle_134 : decode mX8_bottle.2.2.1 134 = .ok (.iload 6, 2) := by decide +kernel
theorem dX8_bottle_136 : decode mX8_bottle.2.2.1 136 = .ok (.iadd, 1) := by decide +kernel
theorem dX8_bottle_137 : decode mX8_bottle.2.2.1 137 = .ok (.istore 4, 2) := by decide +kernel
theorem dX8_bottle_139 : decode mX8_bottle.2.2.1 139 = .ok (.iinc 5 1, 3) := by decide +kernel
theorem dX8_bottle_142 : decode mX8_bottle.2.2.1 142 = .ok (.goto (-91), 3) := by decide +kernel
theorem dX8_bottle_145 : decode mX8_bottle.2.2.1 145 = .ok (.aload_n 0, 1) := by decide +kernel
theorem dX8_bottle_146 : decode mX8_bottle.2.2.1 146 = .ok (.getfield 7, 3) := by decide +kernel
theorem dX8_bottle_149 : decode mX8_bottle.2.2.1 149 = .ok (.bipush 9, 2) := by decide +kernel
theorem dX8_bottle_151 : decode mX8_bottle.2.2.1 151 = .ok (.bipush 20, 2) := by decide +kernel
theorem dX8_bottle_153 : decode mX8_bottle.2.2.1 153 = .ok (.iload_n 1, 1) := by decide +kernel
theorem dX8_bottle_154 : decode mX8_bottle.2.2.1 154 = .ok (.imul, 1) := by decide +kernel
theorem dX8_bottle_155 : decode mX8_bottle.2.2.1 155 = .ok (.iadd, 1) := by decide +kernel
theorem dX8_bottle_156 : decode mX8_bottle.2.2.1 156 = .ok (.iconst 0, 1) := by decide +kernel
theorem dX8_bottle_157 : decode mX8_bottle.2.2.1 157 = .ok (.iadd, 1) := by decide +kernel
theorem dX8_bottle_158 : decode mX8_bottle.2.2.1 158 = .ok (.iconst 0, 1) := by decide +kernel
theorem dX8_bottle_159 : decode mX8_bottle.2.2.1 159 = .ok (.iastore, 1) := by decide +kernel
theorem dX8_bottle_160 : decode mX8_bottle.2.2.1 160 = .ok (.aload_n 0, 1) := by decide +kernel
theorem dX8_bottle_161 : decode mX8_bottle.2.2.1 161 = .ok (.getfield 7, 3) := by decide +kernel
theorem dX8_bottle_164 : decode mX8_bottle.2.2.1 164 = .ok (.bipush 9, 2) := by decide +kernel
theorem dX8_bottle_166 : decode mX8_bottle.2.2.1 166 = .ok (.bipush 20, 2) := by decide +kernel
theorem dX8_bottle_168 : decode mX8_bottle.2.2.1 168 = .ok (.iload_n 1, 1) := by decide +kernel
theorem dX8_bottle_169 : decode mX8_bottle.2.2.1 169 = .ok (.imul, 1) := by decide +kernel
theorem dX8_bottle_170 : decode mX8_bottle.2.2.1 170 = .ok (.iadd, 1) := by decide +kernel
theorem dX8_bottle_171 : decode mX8_bottle.2.2.1 171 = .ok (.iconst 4, 1) := by decide +kernel
theorem dX8_bottle_172 : decode mX8_bottle.2.2.1 172 = .ok (.iadd, 1) := by decide +kernel
theorem dX8_bottle_173 : decode mX8_bottle.2.2.1 173 = .ok (.iconst 1, 1) := by decide +kernel
theorem dX8_bottle_174 : decode mX8_bottle.2.2.1 174 = .ok (.iastore, 1) := by decide +kernel
theorem dX8_bottle_175 : decode mX8_bottle.2.2.1 175 = .ok (.aload_n 0, 1) := by decide +kernel
theorem dX8_bottle_176 : decode mX8_bottle.2.2.1 176 = .ok (.getfield 7, 3) := by decide +kernel
theorem dX8_bottle_179 : decode mX8_bottle.2.2.1 179 = .ok (.bipush 9, 2) := by decide +kernel
theorem dX8_bottle_181 : decode mX8_bottle.2.2.1 181 = .ok (.bipush 20, 2) := by decide +kernel
theorem dX8_bottle_183 : decode mX8_bottle.2.2.1 183 = .ok (.iload_n 1, 1) := by decide +kernel
theorem dX8_bottle_184 : decode mX8_bottle.2.2.1 184 = .ok (.imul, 1) := by decide +kernel
theorem dX8_bottle_185 : decode mX8_bottle.2.2.1 185 = .ok (.iadd, 1) := by decide +kernel
theorem dX8_bottle_186 : decode mX8_bottle.2.2.1 186 = .ok (.iconst 5, 1) := by decide +kernel
theorem dX8_bottle_187 : decode mX8_bottle.2.2.1 187 = .ok (.iadd, 1) := by decide +kernel
theorem dX8_bottle_188 : decode mX8_bottle.2.2.1 188 = .ok (.iload_n 2, 1) := by decide +kernel
theorem dX8_bottle_189 : decode mX8_bottle.2.2.1 189 = .ok (.iastore, 1) := by decide +kernel
theorem dX8_bottle_190 : decode mX8_bottle.2.2.1 190 = .ok (.aload_n 0, 1) := by decide +kernel
theorem dX8_bottle_191 : decode mX8_bottle.2.2.1 191 = .ok (.getfield 7, 3) := by decide +kernel
theorem dX8_bottle_194 : decode mX8_bottle.2.2.1 194 = .ok (.bipush 9, 2) := by decide +kernel
theorem dX8_bottle_196 : decode mX8_bottle.2.2.1 196 = .ok (.bipush 20, 2) := by decide +kernel
theorem dX8_bottle_198 : decode mX8_bottle.2.2.1 198 = .ok (.iload_n 1, 1) := by decide +kernel
theorem dX8_bottle_199 : decode mX8_bottle.2.2.1 199 = .ok (.imul, 1) := by decide +kernel
theorem dX8_bottle_200 : decode mX8_bottle.2.2.1 200 = .ok (.iadd, 1) := by decide +kernel
theorem dX8_bottle_201 : decode mX8_bottle.2.2.1 201 = .ok (.bipush 6, 2) := by decide +kernel
theorem dX8_bottle_203 : decode mX8_bottle.2.2.1 203 = .ok (.iadd, 1) := by decide +kernel
theorem dX8_bottle_204 : decode mX8_bottle.2.2.1 204 = .ok (.iload_n 2, 1) := by decide +kernel
theorem dX8_bottle_205 : decode mX8_bottle.2.2.1 205 = .ok (.iastore, 1) := by decide +kernel
theorem dX8_bottle_206 : decode mX8_bottle.2.2.1 206 = .ok (.aload_n 0, 1) := by decide +kernel
theorem dX8_bottle_207 : decode mX8_bottle.2.2.1 207 = .ok (.getfield 7, 3) := by decide +kernel
theorem dX8_bottle_210 : decode mX8_bottle.2.2.1 210 = .ok (.iconst 5, 1) := by decide +kernel
theorem dX8_bottle_211 : decode mX8_bottle.2.2.1 211 = .ok (.dup2, 1) := by decide +kernel
theorem dX8_bottle_212 : decode mX8_bottle.2.2.1 212 = .ok (.iaload, 1) := by decide +kernel
theorem dX8_bottle_213 : decode mX8_bottle.2.2.1 213 = .ok (.iload 4, 2) := by decide +kernel
theorem dX8_bottle_215 : decode mX8_bottle.2.2.1 215 = .ok (.iadd, 1) := by decide +kernel
theorem dX8_bottle_216 : decode mX8_bottle.2.2.1 216 = .ok (.iastore, 1) := by decide +kernel
theorem dX8_bottle_217 : decode mX8_bottle.2.2.1 217 = .ok (.iload 4, 2) := by decide +kernel
theorem dX8_bottle_219 : decode mX8_bottle.2.2.1 219 = .ok (.ireturn, 1) := by decide +kernel
theorem dX8_buyer_0 : decode mX8_buyer.2.2.1 0 = .ok (.aload_n 0, 1) := by decide +kernel
theorem dX8_buyer_1 : decode mX8_buyer.2.2.1 1 = .ok (.getfield 7, 3) := by decide +kernel
theorem dX8_buyer_4 : decode mX8_buyer.2.2.1 4 = .ok (.iconst 1, 1) := by decide +kernel
theorem dX8_buyer_5 : decode mX8_buyer.2.2.1 5 = .ok (.iaload, 1) := by decide +kernel
theorem dX8_buyer_6 : decode mX8_buyer.2.2.1 6 = .ok (.bipush 6, 2) := by decide +kernel
theorem dX8_buyer_8 : decode mX8_buyer.2.2.1 8 = .ok (.if_icmp .ne 6, 3) := by decide +kernel
theorem dX8_buyer_11 : decode mX8_buyer.2.2.1 11 = .ok (.ldc 77, 2) := by decide +kernel
theorem dX8_buyer_13 : decode mX8_buyer.2.2.1 13 = .ok (.ireturn, 1) := by decide +kernel
theorem dX8_buyer_14 : decode mX8_buyer.2.2.1 14 = .ok (.aload_n 0, 1) := by decide +kernel
theorem dX8_buyer_15 : decode mX8_buyer.2.2.1 15 = .ok (.invokevirtual 78, 3) := by decide +kernel
theorem dX8_buyer_18 : decode mX8_buyer.2.2.1 18 = .ok (.aload_n 0, 1) := by decide +kernel
theorem dX8_buyer_19 : decode mX8_buyer.2.2.1 19 = .ok (.getfield 7, 3) := by decide +kernel
theorem dX8_buyer_22 : decode mX8_buyer.2.2.1 22 = .ok (.iconst 1, 1) := by decide +kernel
theorem dX8_buyer_23 : decode mX8_buyer.2.2.1 23 = .ok (.dup2, 1) := by decide +kernel
theorem dX8_buyer_24 : decode mX8_buyer.2.2.1 24 = .ok (.iaload, 1) := by decide +kernel
theorem dX8_buyer_25 : decode mX8_buyer.2.2.1 25 = .ok (.iconst 1, 1) := by decide +kernel
theorem dX8_buyer_26 : decode mX8_buyer.2.2.1 26 = .ok (.iadd, 1) := by decide +kernel
theorem dX8_buyer_27 : decode mX8_buyer.2.2.1 27 = .ok (.iastore, 1) := by decide +kernel
theorem dX8_buyer_28 : decode mX8_buyer.2.2.1 28 = .ok (.aload_n 0, 1) := by decide +kernel
theorem dX8_buyer_29 : decode mX8_buyer.2.2.1 29 = .ok (.getfield 7, 3) := by decide +kernel
theorem dX8_buyer_32 : decode mX8_buyer.2.2.1 32 = .ok (.iconst 1, 1) := by decide +kernel
theorem dX8_buyer_33 : decode mX8_buyer.2.2.1 33 = .ok (.iaload, 1) := by decide +kernel
theorem dX8_buyer_34 : decode mX8_buyer.2.2.1 34 = .ok (.iconst 1, 1) := by decide +kernel
theorem dX8_buyer_35 : decode mX8_buyer.2.2.1 35 = .ok (.isub, 1) := by decide +kernel
theorem dX8_buyer_36 : decode mX8_buyer.2.2.1 36 = .ok (.ireturn, 1) := by decide +kernel
theorem dX8_areCases_0 : decode mX8_areCases.2.2.1 0 = .ok (.iload_n 0, 1) := by decide +kernel
theorem dX8_areCases_1 : decode mX8_areCases.2.2.1 1 = .ok (.iconst 1, 1) := by decide +kernel
theorem dX8_areCases_2 : decode mX8_areCases.2.2.1 2 = .ok (.sipush 999, 3) := by decide +kernel
theorem dX8_areCases_5 : decode mX8_areCases.2.2.1 5 = .ok (.invokestatic 72, 3) := by decide +kernel
theorem dX8_areCases_8 : decode mX8_areCases.2.2.1 8 = .ok (.ifCond .eq 18, 3) := by decide +kernel
theorem dX8_areCases_11 : decode mX8_areCases.2.2.1 11 = .ok (.iload_n 1, 1) := by decide +kernel
theorem dX8_areCases_12 : decode mX8_areCases.2.2.1 12 = .ok (.iconst 0, 1) := by decide +kernel
theorem dX8_areCases_13 : decode mX8_areCases.2.2.1 13 = .ok (.sipush 999, 3) := by decide +kernel
theorem dX8_areCases_16 : decode mX8_areCases.2.2.1 16 = .ok (.invokestatic 72, 3) := by decide +kernel
theorem dX8_areCases_19 : decode mX8_areCases.2.2.1 19 = .ok (.ifCond .eq 7, 3) := by decide +kernel
theorem dX8_areCases_22 : decode mX8_areCases.2.2.1 22 = .ok (.iconst 1, 1) := by decide +kernel
theorem dX8_areCases_23 : decode mX8_areCases.2.2.1 23 = .ok (.goto 4, 3) := by decide +kernel
theorem dX8_areCases_26 : decode mX8_areCases.2.2.1 26 = .ok (.iconst 0, 1) := by decide +kernel
theorem dX8_areCases_27 : decode mX8_areCases.2.2.1 27 = .ok (.ireturn, 1) := by decide +kernel
theorem dX8_comes_0 : decode mX8_comes.2.2.1 0 = .ok (.aload_n 0, 1) := by decide +kernel
theorem dX8_comes_1 : decode mX8_comes.2.2.1 1 = .ok (.getfield 7, 3) := by decide +kernel
theorem dX8_comes_4 : decode mX8_comes.2.2.1 4 = .ok (.iload_n 1, 1) := by decide +kernel
theorem dX8_comes_5 : decode mX8_comes.2.2.1 5 = .ok (.iload_n 2, 1) := by decide +kernel
theorem dX8_comes_6 : decode mX8_comes.2.2.1 6 = .ok (.iconst 0, 1) := by decide +kernel
theorem dX8_comes_7 : decode mX8_comes.2.2.1 7 = .ok (.invokestatic 40, 3) := by decide +kernel
theorem dX8_comes_10 : decode mX8_comes.2.2.1 10 = .ok (.dup2, 1) := by decide +kernel
theorem dX8_comes_11 : decode mX8_comes.2.2.1 11 = .ok (.iaload, 1) := by decide +kernel
theorem dX8_comes_12 : decode mX8_comes.2.2.1 12 = .ok (.iload_n 3, 1) := by decide +kernel
theorem dX8_comes_13 : decode mX8_comes.2.2.1 13 = .ok (.iadd, 1) := by decide +kernel
theorem dX8_comes_14 : decode mX8_comes.2.2.1 14 = .ok (.iastore, 1) := by decide +kernel
theorem dX8_comes_15 : decode mX8_comes.2.2.1 15 = .ok (.aload_n 0, 1) := by decide +kernel
theorem dX8_comes_16 : decode mX8_comes.2.2.1 16 = .ok (.getfield 7, 3) := by decide +kernel
theorem dX8_comes_19 : decode mX8_comes.2.2.1 19 = .ok (.iload_n 1, 1) := by decide +kernel
theorem dX8_comes_20 : decode mX8_comes.2.2.1 20 = .ok (.iload_n 2, 1) := by decide +kernel
theorem dX8_comes_21 : decode mX8_comes.2.2.1 21 = .ok (.iconst 1, 1) := by decide +kernel
theorem dX8_comes_22 : decode mX8_comes.2.2.1 22 = .ok (.invokestatic 40, 3) := by decide +kernel
theorem dX8_comes_25 : decode mX8_comes.2.2.1 25 = .ok (.dup2, 1) := by decide +kernel
theorem dX8_comes_26 : decode mX8_comes.2.2.1 26 = .ok (.iaload, 1) := by decide +kernel
theorem dX8_comes_27 : decode mX8_comes.2.2.1 27 = .ok (.iload_n 3, 1) := by decide +kernel
theorem dX8_comes_28 : decode mX8_comes.2.2.1 28 = .ok (.iload 4, 2) := by decide +kernel
theorem dX8_comes_30 : decode mX8_comes.2.2.1 30 = .ok (.imul, 1) := by decide +kernel
theorem dX8_comes_31 : decode mX8_comes.2.2.1 31 = .ok (.iadd, 1) := by decide +kernel
theorem dX8_comes_32 : decode mX8_comes.2.2.1 32 = .ok (.iastore, 1) := by decide +kernel
theorem dX8_comes_33 : decode mX8_comes.2.2.1 33 = .ok (.aload_n 0, 1) := by decide +kernel
theorem dX8_comes_34 : decode mX8_comes.2.2.1 34 = .ok (.getfield 7, 3) := by decide +kernel
theorem dX8_comes_37 : decode mX8_comes.2.2.1 37 = .ok (.sipush 129, 3) := by decide +kernel
theorem dX8_comes_40 : decode mX8_comes.2.2.1 40 = .ok (.iload_n 1, 1) := by decide +kernel
theorem dX8_comes_41 : decode mX8_comes.2.2.1 41 = .ok (.iadd, 1) := by decide +kernel
theorem dX8_comes_42 : decode mX8_comes.2.2.1 42 = .ok (.dup2, 1) := by decide +kernel
theorem dX8_comes_43 : decode mX8_comes.2.2.1 43 = .ok (.iaload, 1) := by decide +kernel
theorem dX8_comes_44 : decode mX8_comes.2.2.1 44 = .ok (.iload_n 3, 1) := by decide +kernel
theorem dX8_comes_45 : decode mX8_comes.2.2.1 45 = .ok (.iload 4, 2) := by decide +kernel
theorem dX8_comes_47 : decode mX8_comes.2.2.1 47 = .ok (.imul, 1) := by decide +kernel
theorem dX8_comes_48 : decode mX8_comes.2.2.1 48 = .ok (.isub, 1) := by decide +kernel
theorem dX8_comes_49 : decode mX8_comes.2.2.1 49 = .ok (.iastore, 1) := by decide +kernel
theorem dX8_comes_50 : decode mX8_comes.2.2.1 50 = .ok (.aload_n 0, 1) := by decide +kernel
theorem dX8_comes_51 : decode mX8_comes.2.2.1 51 = .ok (.getfield 7, 3) := by decide +kernel
theorem dX8_comes_54 : decode mX8_comes.2.2.1 54 = .ok (.sipush 129, 3) := by decide +kernel
theorem dX8_comes_57 : decode mX8_comes.2.2.1 57 = .ok (.iload 5, 2) := by decide +kernel
theorem dX8_comes_59 : decode mX8_comes.2.2.1 59 = .ok (.iadd, 1) := by decide +kernel
theorem dX8_comes_60 : decode mX8_comes.2.2.1 60 = .ok (.dup2, 1) := by decide +kernel
theorem dX8_comes_61 : decode mX8_comes.2.2.1 61 = .ok (.iaload, 1) := by decide +kernel
theorem dX8_comes_62 : decode mX8_comes.2.2.1 62 = .ok (.iload_n 3, 1) := by decide +kernel
theorem dX8_comes_63 : decode mX8_comes.2.2.1 63 = .ok (.iload 4, 2) := by decide +kernel
theorem dX8_comes_65 : decode mX8_comes.2.2.1 65 = .ok (.imul, 1) := by decide +kernel
theorem dX8_comes_66 : decode mX8_comes.2.2.1 66 = .ok (.iadd, 1) := by decide +kernel
theorem dX8_comes_67 : decode mX8_comes.2.2.1 67 = .ok (.iastore, 1) := by decide +kernel
theorem dX8_comes_68 : decode mX8_comes.2.2.1 68 = .ok (.return_, 1) := by decide +kernel
theorem dX8_sell_0 : decode mX8_sell.2.2.1 0 = .ok (.aload_n 0, 1) := by decide +kernel
theorem dX8_sell_1 : decode mX8_sell.2.2.1 1 = .ok (.iload_n 1, 1) := by decide +kernel
theorem dX8_sell_2 : decode mX8_sell.2.2.1 2 = .ok (.invokevirtual 81, 3) := by decide +kernel
theorem dX8_sell_5 : decode mX8_sell.2.2.1 5 = .ok (.ifCond .eq 20, 3) := by decide +kernel
theorem dX8_sell_8 : decode mX8_sell.2.2.1 8 = .ok (.aload_n 0, 1) := by decide +kernel
theorem dX8_sell_9 : decode mX8_sell.2.2.1 9 = .ok (.iload_n 2, 1) := by decide +kernel
theorem dX8_sell_10 : decode mX8_sell.2.2.1 10 = .ok (.invokevirtual 118, 3) := by decide +kernel
theorem dX8_sell_13 : decode mX8_sell.2.2.1 13 = .ok (.ifCond .eq 12, 3) := by decide +kernel
theorem dX8_sell_16 : decode mX8_sell.2.2.1 16 = .ok (.iload_n 3, 1) := by decide +kernel
theorem dX8_sell_17 : decode mX8_sell.2.2.1 17 = .ok (.iload 4, 2) := by decide +kernel
theorem dX8_sell_19 : decode mX8_sell.2.2.1 19 = .ok (.invokestatic 121, 3) := by decide +kernel
theorem dX8_sell_22 : decode mX8_sell.2.2.1 22 = .ok (.ifCond .ne 6, 3) := by decide +kernel
theorem dX8_sell_25 : decode mX8_sell.2.2.1 25 = .ok (.ldc 76, 2) := by decide +kernel
theorem dX8_sell_27 : decode mX8_sell.2.2.1 27 = .ok (.ireturn, 1) := by decide +kernel
theorem dX8_sell_28 : decode mX8_sell.2.2.1 28 = .ok (.aload_n 0, 1) := by decide +kernel
theorem dX8_sell_29 : decode mX8_sell.2.2.1 29 = .ok (.iload_n 1, 1) := by decide +kernel
theorem dX8_sell_30 : decode mX8_sell.2.2.1 30 = .ok (.invokevirtual 85, 3) := by decide +kernel
theorem dX8_sell_33 : decode mX8_sell.2.2.1 33 = .ok (.ifCond .eq 18, 3) := by decide +kernel
theorem dX8_sell_36 : decode mX8_sell.2.2.1 36 = .ok (.aload_n 0, 1) := by decide +kernel
theorem dX8_sell_37 : decode mX8_sell.2.2.1 37 = .ok (.iload_n 1, 1) := by decide +kernel
theorem dX8_sell_38 : decode mX8_sell.2.2.1 38 = .ok (.invokevirtual 104, 3) := by decide +kernel
theorem dX8_sell_41 : decode mX8_sell.2.2.1 41 = .ok (.iload_n 3, 1) := by decide +kernel
theorem dX8_sell_42 : decode mX8_sell.2.2.1 42 = .ok (.iadd, 1) := by decide +kernel
theorem dX8_sell_43 : decode mX8_sell.2.2.1 43 = .ok (.aload_n 0, 1) := by decide +kernel
theorem dX8_sell_44 : decode mX8_sell.2.2.1 44 = .ok (.iload_n 1, 1) := by decide +kernel
theorem dX8_sell_45 : decode mX8_sell.2.2.1 45 = .ok (.invokevirtual 125, 3) := by decide +kernel
theorem dX8_sell_48 : decode mX8_sell.2.2.1 48 = .ok (.if_icmp .le 6, 3) := by decide +kernel
theorem dX8_sell_51 : decode mX8_sell.2.2.1 51 = .ok (.ldc 91, 2) := by decide +kernel
theorem dX8_sell_53 : decode mX8_sell.2.2.1 53 = .ok (.ireturn, 1) := by decide +kernel
theorem dX8_sell_54 : decode mX8_sell.2.2.1 54 = .ok (.aload_n 0, 1) := by decide +kernel
theorem dX8_sell_55 : decode mX8_sell.2.2.1 55 = .ok (.invokevirtual 78, 3) := by decide +kernel
theorem dX8_sell_58 : decode mX8_sell.2.2.1 58 = .ok (.aload_n 0, 1) := by decide +kernel
theorem dX8_sell_59 : decode mX8_sell.2.2.1 59 = .ok (.iload_n 2, 1) := by decide +kernel
theorem dX8_sell_60 : decode mX8_sell.2.2.1 60 = .ok (.iload_n 1, 1) := by decide +kernel
theorem dX8_sell_61 : decode mX8_sell.2.2.1 61 = .ok (.iload_n 3, 1) := by decide +kernel
theorem dX8_sell_62 : decode mX8_sell.2.2.1 62 = .ok (.iload 4, 2) := by decide +kernel
theorem dX8_sell_64 : decode mX8_sell.2.2.1 64 = .ok (.bipush 6, 2) := by decide +kernel
theorem dX8_sell_66 : decode mX8_sell.2.2.1 66 = .ok (.invokevirtual 128, 3) := by decide +kernel
theorem dX8_sell_69 : decode mX8_sell.2.2.1 69 = .ok (.aload_n 0, 1) := by decide +kernel
theorem dX8_sell_70 : decode mX8_sell.2.2.1 70 = .ok (.iconst 0, 1) := by decide +kernel
theorem dX8_sell_71 : decode mX8_sell.2.2.1 71 = .ok (.iload_n 1, 1) := by decide +kernel
theorem dX8_sell_72 : decode mX8_sell.2.2.1 72 = .ok (.iload_n 2, 1) := by decide +kernel
theorem dX8_sell_73 : decode mX8_sell.2.2.1 73 = .ok (.iload_n 3, 1) := by decide +kernel
theorem dX8_sell_74 : decode mX8_sell.2.2.1 74 = .ok (.iload 4, 2) := by decide +kernel
theorem dX8_sell_76 : decode mX8_sell.2.2.1 76 = .ok (.ldc 57, 2) := by decide +kernel
theorem dX8_sell_78 : decode mX8_sell.2.2.1 78 = .ok (.invokevirtual 114, 3) := by decide +kernel
theorem dX8_sell_81 : decode mX8_sell.2.2.1 81 = .ok (.aload_n 0, 1) := by decide +kernel
theorem dX8_sell_82 : decode mX8_sell.2.2.1 82 = .ok (.iload_n 2, 1) := by decide +kernel
theorem dX8_sell_83 : decode mX8_sell.2.2.1 83 = .ok (.iload_n 1, 1) := by decide +kernel
theorem dX8_sell_84 : decode mX8_sell.2.2.1 84 = .ok (.invokevirtual 44, 3) := by decide +kernel
theorem dX8_sell_87 : decode mX8_sell.2.2.1 87 = .ok (.ireturn, 1) := by decide +kernel
theorem dX8_trade_0 : decode mX8_trade.2.2.1 0 = .ok (.aload_n 0, 1) := by decide +kernel
theorem dX8_trade_1 : decode mX8_trade.2.2.1 1 = .ok (.iload_n 1, 1) := by decide +kernel
theorem dX8_trade_2 : decode mX8_trade.2.2.1 2 = .ok (.invokevirtual 81, 3) := by decide +kernel
theorem dX8_trade_5 : decode mX8_trade.2.2.1 5 = .ok (.ifCond .eq 34, 3) := by decide +kernel
theorem dX8_trade_8 : decode mX8_trade.2.2.1 8 = .ok (.aload_n 0, 1) := by decide +kernel
theorem dX8_trade_9 : decode mX8_trade.2.2.1 9 = .ok (.iload_n 2, 1) := by decide +kernel
theorem dX8_trade_10 : decode mX8_trade.2.2.1 10 = .ok (.invokevirtual 118, 3) := by decide +kernel
theorem dX8_trade_13 : decode mX8_trade.2.2.1 13 = .ok (.ifCond .eq 26, 3) := by decide +kernel
theorem dX8_trade_16 : decode mX8_trade.2.2.1 16 = .ok (.aload_n 0, 1) := by decide +kernel
theorem dX8_trade_17 : decode mX8_trade.2.2.1 17 = .ok (.iload_n 3, 1) := by decide +kernel
theorem dX8_trade_18 : decode mX8_trade.2.2.1 18 = .ok (.invokevirtual 118, 3) := by decide +kernel
theorem dX8_trade_21 : decode mX8_trade.2.2.1 21 = .ok (.ifCond .eq 18, 3) := by decide +kernel
theorem dX8_trade_24 : decode mX8_trade.2.2.1 24 = .ok (.iload_n 2, 1) := by decide +kernel
theorem dX8_trade_25 : decode mX8_trade.2.2.1 25 = .ok (.iload_n 3, 1) := by decide +kernel
theorem dX8_trade_26 : decode mX8_trade.2.2.1 26 = .ok (.if_icmp .eq 13, 3) := by decide +kernel
theorem dX8_trade_29 : decode mX8_trade.2.2.1 29 = .ok (.iload 4, 2) := by decide +kernel
theorem dX8_trade_31 : decode mX8_trade.2.2.1 31 = .ok (.iload 5, 2) := by decide +kernel
theorem dX8_trade_33 : decode mX8_trade.2.2.1 33 = .ok (.invokestatic 121, 3) := by decide +kernel
theorem dX8_trade_36 : decode mX8_trade.2.2.1 36 = .ok (.ifCond .ne 6, 3) := by decide +kernel
theorem dX8_trade_39 : decode mX8_trade.2.2.1 39 = .ok (.ldc 76, 2) := by decide +kernel
theorem dX8_trade_41 : decode mX8_trade.2.2.1 41 = .ok (.ireturn, 1) := by decide +kernel
theorem dX8_trade_42 : decode mX8_trade.2.2.1 42 = .ok (.aload_n 0, 1) := by decide +kernel
theorem dX8_trade_43 : decode mX8_trade.2.2.1 43 = .ok (.iload_n 2, 1) := by decide +kernel
theorem dX8_trade_44 : decode mX8_trade.2.2.1 44 = .ok (.iload_n 1, 1) := by decide +kernel
theorem dX8_trade_45 : decode mX8_trade.2.2.1 45 = .ok (.invokevirtual 44, 3) := by decide +kernel
theorem dX8_trade_48 : decode mX8_trade.2.2.1 48 = .ok (.iload 4, 2) := by decide +kernel
theorem dX8_trade_50 : decode mX8_trade.2.2.1 50 = .ok (.if_icmp .ge 6, 3) := by decide +kernel
theorem dX8_trade_53 : decode mX8_trade.2.2.1 53 = .ok (.ldc 91, 2) := by decide +kernel
theorem dX8_trade_55 : decode mX8_trade.2.2.1 55 = .ok (.ireturn, 1) := by decide +kernel
theorem dX8_trade_56 : decode mX8_trade.2.2.1 56 = .ok (.aload_n 0, 1) := by decide +kernel
theorem dX8_trade_57 : decode mX8_trade.2.2.1 57 = .ok (.invokevirtual 78, 3) := by decide +kernel
theorem dX8_trade_60 : decode mX8_trade.2.2.1 60 = .ok (.aload_n 0, 1) := by decide +kernel
theorem dX8_trade_61 : decode mX8_trade.2.2.1 61 = .ok (.iload_n 2, 1) := by decide +kernel
theorem dX8_trade_62 : decode mX8_trade.2.2.1 62 = .ok (.iload_n 1, 1) := by decide +kernel
theorem dX8_trade_63 : decode mX8_trade.2.2.1 63 = .ok (.iload 4, 2) := by decide +kernel
theorem dX8_trade_65 : decode mX8_trade.2.2.1 65 = .ok (.invokevirtual 111, 3) := by decide +kernel
theorem dX8_trade_68 : decode mX8_trade.2.2.1 68 = .ok (.istore 6, 2) := by decide +kernel
theorem dX8_trade_70 : decode mX8_trade.2.2.1 70 = .ok (.aload_n 0, 1) := by decide +kernel
theorem dX8_trade_71 : decode mX8_trade.2.2.1 71 = .ok (.iload_n 3, 1) := by decide +kernel
theorem dX8_trade_72 : decode mX8_trade.2.2.1 72 = .ok (.iload_n 1, 1) := by decide +kernel
theorem dX8_trade_73 : decode mX8_trade.2.2.1 73 = .ok (.iload 4, 2) := by decide +kernel
theorem dX8_trade_75 : decode mX8_trade.2.2.1 75 = .ok (.iload 5, 2) := by decide +kernel
theorem dX8_trade_77 : decode mX8_trade.2.2.1 77 = .ok (.iload_n 2, 1) := by decide +kernel
theorem dX8_trade_78 : decode mX8_trade.2.2.1 78 = .ok (.invokevirtual 128, 3) := by decide +kernel
theorem dX8_trade_81 : decode mX8_trade.2.2.1 81 = .ok (.aload_n 0, 1) := by decide +kernel
theorem dX8_trade_82 : decode mX8_trade.2.2.1 82 = .ok (.iconst 1, 1) := by decide +kernel
theorem dX8_trade_83 : decode mX8_trade.2.2.1 83 = .ok (.iload_n 1, 1) := by decide +kernel
theorem dX8_trade_84 : decode mX8_trade.2.2.1 84 = .ok (.iload_n 3, 1) := by decide +kernel
theorem dX8_trade_85 : decode mX8_trade.2.2.1 85 = .ok (.iload 4, 2) := by decide +kernel
theorem dX8_trade_87 : decode mX8_trade.2.2.1 87 = .ok (.iload 5, 2) := by decide +kernel
theorem dX8_trade_89 : decode mX8_trade.2.2.1 89 = .ok (.iload_n 2, 1) := by decide +kernel
theorem dX8_trade_90 : decode mX8_trade.2.2.1 90 = .ok (.invokevirtual 114, 3) := by decide +kernel
theorem dX8_trade_93 : decode mX8_trade.2.2.1 93 = .ok (.iload 6, 2) := by decide +kernel
theorem dX8_trade_95 : decode mX8_trade.2.2.1 95 = .ok (.ifCond .ge 8, 3) := by decide +kernel
theorem dX8_trade_98 : decode mX8_trade.2.2.1 98 = .ok (.ldc 57, 2) := by decide +kernel
theorem dX8_trade_100 : decode mX8_trade.2.2.1 100 = .ok (.goto 9, 3) := by decide +kernel
theorem dX8_trade_103 : decode mX8_trade.2.2.1 103 = .ok (.aload_n 0, 1) := by decide +kernel
theorem dX8_trade_104 : decode mX8_trade.2.2.1 104 = .ok (.iload_n 3, 1) := by decide +kernel
theorem dX8_trade_105 : decode mX8_trade.2.2.1 105 = .ok (.iload_n 1, 1) := by decide +kernel
theorem dX8_trade_106 : decode mX8_trade.2.2.1 106 = .ok (.invokevirtual 44, 3) := by decide +kernel
theorem dX8_trade_109 : decode mX8_trade.2.2.1 109 = .ok (.ireturn, 1) := by decide +kernel
theorem dX8_redeem_0 : decode mX8_redeem.2.2.1 0 = .ok (.aload_n 0, 1) := by decide +kernel
theorem dX8_redeem_1 : decode mX8_redeem.2.2.1 1 = .ok (.iload_n 1, 1) := by decide +kernel
theorem dX8_redeem_2 : decode mX8_redeem.2.2.1 2 = .ok (.invokevirtual 81, 3) := by decide +kernel
theorem dX8_redeem_5 : decode mX8_redeem.2.2.1 5 = .ok (.ifCond .eq 22, 3) := by decide +kernel
theorem dX8_redeem_8 : decode mX8_redeem.2.2.1 8 = .ok (.aload_n 0, 1) := by decide +kernel
theorem dX8_redeem_9 : decode mX8_redeem.2.2.1 9 = .ok (.iload_n 2, 1) := by decide +kernel
theorem dX8_redeem_10 : decode mX8_redeem.2.2.1 10 = .ok (.invokevirtual 118, 3) := by decide +kernel
theorem dX8_redeem_13 : decode mX8_redeem.2.2.1 13 = .ok (.ifCond .eq 14, 3) := by decide +kernel
theorem dX8_redeem_16 : decode mX8_redeem.2.2.1 16 = .ok (.iload_n 3, 1) := by decide +kernel
theorem dX8_redeem_17 : decode mX8_redeem.2.2.1 17 = .ok (.iconst 1, 1) := by decide +kernel
theorem dX8_redeem_18 : decode mX8_redeem.2.2.1 18 = .ok (.sipush 999, 3) := by decide +kernel
theorem dX8_redeem_21 : decode mX8_redeem.2.2.1 21 = .ok (.invokestatic 72, 3) := by decide +kernel
theorem dX8_redeem_24 : decode mX8_redeem.2.2.1 24 = .ok (.ifCond .ne 6, 3) := by decide +kernel
theorem dX8_redeem_27 : decode mX8_redeem.2.2.1 27 = .ok (.ldc 76, 2) := by decide +kernel
theorem dX8_redeem_29 : decode mX8_redeem.2.2.1 29 = .ok (.ireturn, 1) := by decide +kernel
theorem dX8_redeem_30 : decode mX8_redeem.2.2.1 30 = .ok (.aload_n 0, 1) := by decide +kernel
theorem dX8_redeem_31 : decode mX8_redeem.2.2.1 31 = .ok (.iload_n 1, 1) := by decide +kernel
theorem dX8_redeem_32 : decode mX8_redeem.2.2.1 32 = .ok (.invokevirtual 85, 3) := by decide +kernel
theorem dX8_redeem_35 : decode mX8_redeem.2.2.1 35 = .ok (.ifCond .ne 13, 3) := by decide +kernel
theorem dX8_redeem_38 : decode mX8_redeem.2.2.1 38 = .ok (.aload_n 0, 1) := by decide +kernel
theorem dX8_redeem_39 : decode mX8_redeem.2.2.1 39 = .ok (.iload_n 2, 1) := by decide +kernel
theorem dX8_redeem_40 : decode mX8_redeem.2.2.1 40 = .ok (.iload_n 1, 1) := by decide +kernel
theorem dX8_redeem_41 : decode mX8_redeem.2.2.1 41 = .ok (.invokevirtual 44, 3) := by decide +kernel
theorem dX8_redeem_44 : decode mX8_redeem.2.2.1 44 = .ok (.iload_n 3, 1) := by decide +kernel
theorem dX8_redeem_45 : decode mX8_redeem.2.2.1 45 = .ok (.if_icmp .ge 6, 3) := by decide +kernel
theorem dX8_redeem_48 : decode mX8_redeem.2.2.1 48 = .ok (.ldc 91, 2) := by decide +kernel
theorem dX8_redeem_50 : decode mX8_redeem.2.2.1 50 = .ok (.ireturn, 1) := by decide +kernel
theorem dX8_redeem_51 : decode mX8_redeem.2.2.1 51 = .ok (.aload_n 0, 1) := by decide +kernel
theorem dX8_redeem_52 : decode mX8_redeem.2.2.1 52 = .ok (.invokevirtual 78, 3) := by decide +kernel
theorem dX8_redeem_55 : decode mX8_redeem.2.2.1 55 = .ok (.aload_n 0, 1) := by decide +kernel
theorem dX8_redeem_56 : decode mX8_redeem.2.2.1 56 = .ok (.iload_n 2, 1) := by decide +kernel
theorem dX8_redeem_57 : decode mX8_redeem.2.2.1 57 = .ok (.iload_n 1, 1) := by decide +kernel
theorem dX8_redeem_58 : decode mX8_redeem.2.2.1 58 = .ok (.iload_n 3, 1) := by decide +kernel
theorem dX8_redeem_59 : decode mX8_redeem.2.2.1 59 = .ok (.invokevirtual 111, 3) := by decide +kernel
theorem dX8_redeem_62 : decode mX8_redeem.2.2.1 62 = .ok (.istore 4, 2) := by decide +kernel
theorem dX8_redeem_64 : decode mX8_redeem.2.2.1 64 = .ok (.aload_n 0, 1) := by decide +kernel
theorem dX8_redeem_65 : decode mX8_redeem.2.2.1 65 = .ok (.getfield 7, 3) := by decide +kernel
theorem dX8_redeem_68 : decode mX8_redeem.2.2.1 68 = .ok (.iload_n 2, 1) := by decide +kernel
theorem dX8_redeem_69 : decode mX8_redeem.2.2.1 69 = .ok (.iload_n 1, 1) := by decide +kernel
theorem dX8_redeem_70 : decode mX8_redeem.2.2.1 70 = .ok (.iconst 2, 1) := by decide +kernel
theorem dX8_redeem_71 : decode mX8_redeem.2.2.1 71 = .ok (.invokestatic 40, 3) := by decide +kernel
theorem dX8_redeem_74 : decode mX8_redeem.2.2.1 74 = .ok (.dup2, 1) := by decide +kernel
theorem dX8_redeem_75 : decode mX8_redeem.2.2.1 75 = .ok (.iaload, 1) := by decide +kernel
theorem dX8_redeem_76 : decode mX8_redeem.2.2.1 76 = .ok (.iload_n 3, 1) := by decide +kernel
theorem dX8_redeem_77 : decode mX8_redeem.2.2.1 77 = .ok (.iadd, 1) := by decide +kernel
theorem dX8_redeem_78 : decode mX8_redeem.2.2.1 78 = .ok (.iastore, 1) := by decide +kernel
theorem dX8_redeem_79 : decode mX8_redeem.2.2.1 79 = .ok (.aload_n 0, 1) := by decide +kernel
theorem dX8_redeem_80 : decode mX8_redeem.2.2.1 80 = .ok (.getfield 7, 3) := by decide +kernel
theorem dX8_redeem_83 : decode mX8_redeem.2.2.1 83 = .ok (.bipush 9, 2) := by decide +kernel
theorem dX8_redeem_85 : decode mX8_redeem.2.2.1 85 = .ok (.bipush 20, 2) := by decide +kernel
theorem dX8_redeem_87 : decode mX8_redeem.2.2.1 87 = .ok (.iload_n 1, 1) := by decide +kernel
theorem dX8_redeem_88 : decode mX8_redeem.2.2.1 88 = .ok (.imul, 1) := by decide +kernel
theorem dX8_redeem_89 : decode mX8_redeem.2.2.1 89 = .ok (.iadd, 1) := by decide +kernel
theorem dX8_redeem_90 : decode mX8_redeem.2.2.1 90 = .ok (.iconst 5, 1) := by decide +kernel
theorem dX8_redeem_91 : decode mX8_redeem.2.2.1 91 = .ok (.iadd, 1) := by decide +kernel
theorem dX8_redeem_92 : decode mX8_redeem.2.2.1 92 = .ok (.dup2, 1) := by decide +kernel
theorem dX8_redeem_93 : decode mX8_redeem.2.2.1 93 = .ok (.iaload, 1) := by decide +kernel
theorem dX8_redeem_94 : decode mX8_redeem.2.2.1 94 = .ok (.iload_n 3, 1) := by decide +kernel
theorem dX8_redeem_95 : decode mX8_redeem.2.2.1 95 = .ok (.isub, 1) := by decide +kernel
theorem dX8_redeem_96 : decode mX8_redeem.2.2.1 96 = .ok (.iastore, 1) := by decide +kernel
theorem dX8_redeem_97 : decode mX8_redeem.2.2.1 97 = .ok (.aload_n 0, 1) := by decide +kernel
theorem dX8_redeem_98 : decode mX8_redeem.2.2.1 98 = .ok (.getfield 7, 3) := by decide +kernel
theorem dX8_redeem_101 : decode mX8_redeem.2.2.1 101 = .ok (.bipush 9, 2) := by decide +kernel
theorem dX8_redeem_103 : decode mX8_redeem.2.2.1 103 = .ok (.bipush 20, 2) := by decide +kernel
theorem dX8_redeem_105 : decode mX8_redeem.2.2.1 105 = .ok (.iload_n 1, 1) := by decide +kernel
theorem dX8_redeem_106 : decode mX8_redeem.2.2.1 106 = .ok (.imul, 1) := by decide +kernel
theorem dX8_redeem_107 : decode mX8_redeem.2.2.1 107 = .ok (.iadd, 1) := by decide +kernel
theorem dX8_redeem_108 : decode mX8_redeem.2.2.1 108 = .ok (.bipush 7, 2) := by decide +kernel
theorem dX8_redeem_110 : decode mX8_redeem.2.2.1 110 = .ok (.iadd, 1) := by decide +kernel
theorem dX8_redeem_111 : decode mX8_redeem.2.2.1 111 = .ok (.dup2, 1) := by decide +kernel
theorem dX8_redeem_112 : decode mX8_redeem.2.2.1 112 = .ok (.iaload, 1) := by decide +kernel
theorem dX8_redeem_113 : decode mX8_redeem.2.2.1 113 = .ok (.iload_n 3, 1) := by decide +kernel
theorem dX8_redeem_114 : decode mX8_redeem.2.2.1 114 = .ok (.iadd, 1) := by decide +kernel
theorem dX8_redeem_115 : decode mX8_redeem.2.2.1 115 = .ok (.iastore, 1) := by decide +kernel
theorem dX8_redeem_116 : decode mX8_redeem.2.2.1 116 = .ok (.aload_n 0, 1) := by decide +kernel
theorem dX8_redeem_117 : decode mX8_redeem.2.2.1 117 = .ok (.getfield 7, 3) := by decide +kernel
theorem dX8_redeem_120 : decode mX8_redeem.2.2.1 120 = .ok (.iconst 4, 1) := by decide +kernel
theorem dX8_redeem_121 : decode mX8_redeem.2.2.1 121 = .ok (.dup2, 1) := by decide +kernel
theorem dX8_redeem_122 : decode mX8_redeem.2.2.1 122 = .ok (.iaload, 1) := by decide +kernel
theorem dX8_redeem_123 : decode mX8_redeem.2.2.1 123 = .ok (.iload_n 3, 1) := by decide +kernel
theorem dX8_redeem_124 : decode mX8_redeem.2.2.1 124 = .ok (.iadd, 1) := by decide +kernel
theorem dX8_redeem_125 : decode mX8_redeem.2.2.1 125 = .ok (.iastore, 1) := by decide +kernel
theorem dX8_redeem_126 : decode mX8_redeem.2.2.1 126 = .ok (.aload_n 0, 1) := by decide +kernel
theorem dX8_redeem_127 : decode mX8_redeem.2.2.1 127 = .ok (.iconst 3, 1) := by decide +kernel
theorem dX8_redeem_128 : decode mX8_redeem.2.2.1 128 = .ok (.iload_n 1, 1) := by decide +kernel
theorem dX8_redeem_129 : decode mX8_redeem.2.2.1 129 = .ok (.iload_n 2, 1) := by decide +kernel
theorem dX8_redeem_130 : decode mX8_redeem.2.2.1 130 = .ok (.iload_n 3, 1) := by decide +kernel
theorem dX8_redeem_131 : decode mX8_redeem.2.2.1 131 = .ok (.ldc 57, 2) := by decide +kernel
theorem dX8_redeem_133 : decode mX8_redeem.2.2.1 133 = .ok (.ldc 57, 2) := by decide +kernel
theorem dX8_redeem_135 : decode mX8_redeem.2.2.1 135 = .ok (.invokevirtual 114, 3) := by decide +kernel
theorem dX8_redeem_138 : decode mX8_redeem.2.2.1 138 = .ok (.iload 4, 2) := by decide +kernel
theorem dX8_redeem_140 : decode mX8_redeem.2.2.1 140 = .ok (.ifCond .ge 8, 3) := by decide +kernel
theorem dX8_redeem_143 : decode mX8_redeem.2.2.1 143 = .ok (.ldc 57, 2) := by decide +kernel
theorem dX8_redeem_145 : decode mX8_redeem.2.2.1 145 = .ok (.goto 9, 3) := by decide +kernel
theorem dX8_redeem_148 : decode mX8_redeem.2.2.1 148 = .ok (.aload_n 0, 1) := by decide +kernel
theorem dX8_redeem_149 : decode mX8_redeem.2.2.1 149 = .ok (.iload_n 1, 1) := by decide +kernel
theorem dX8_redeem_150 : decode mX8_redeem.2.2.1 150 = .ok (.iconst 5, 1) := by decide +kernel
theorem dX8_redeem_151 : decode mX8_redeem.2.2.1 151 = .ok (.invokevirtual 36, 3) := by decide +kernel
theorem dX8_redeem_154 : decode mX8_redeem.2.2.1 154 = .ok (.ireturn, 1) := by decide +kernel
theorem dX8_set_0 : decode mX8_set.2.2.1 0 = .ok (.iload_n 1, 1) := by decide +kernel
theorem dX8_set_1 : decode mX8_set.2.2.1 1 = .ok (.iconst 0, 1) := by decide +kernel
theorem dX8_set_2 : decode mX8_set.2.2.1 2 = .ok (.iconst 1, 1) := by decide +kernel
theorem dX8_set_3 : decode mX8_set.2.2.1 3 = .ok (.invokestatic 72, 3) := by decide +kernel
theorem dX8_set_6 : decode mX8_set.2.2.1 6 = .ok (.ifCond .eq 22, 3) := by decide +kernel
theorem dX8_set_9 : decode mX8_set.2.2.1 9 = .ok (.iload_n 2, 1) := by decide +kernel
theorem dX8_set_10 : decode mX8_set.2.2.1 10 = .ok (.iconst 0, 1) := by decide +kernel
theorem dX8_set_11 : decode mX8_set.2.2.1 11 = .ok (.iload_n 1, 1) := by decide +kernel
theorem dX8_set_12 : decode mX8_set.2.2.1 12 = .ok (.ifCond .ne 8, 3) := by decide +kernel
theorem dX8_set_15 : decode mX8_set.2.2.1 15 = .ok (.bipush 100, 2) := by decide +kernel
theorem dX8_set_17 : decode mX8_set.2.2.1 17 = .ok (.goto 5, 3) := by decide +kernel
theorem dX8_set_20 : decode mX8_set.2.2.1 20 = .ok (.bipush 36, 2) := by decide +kernel
theorem dX8_set_22 : decode mX8_set.2.2.1 22 = .ok (.invokestatic 72, 3) := by decide +kernel
theorem dX8_set_25 : decode mX8_set.2.2.1 25 = .ok (.ifCond .ne 6, 3) := by decide +kernel
theorem dX8_set_28 : decode mX8_set.2.2.1 28 = .ok (.ldc 76, 2) := by decide +kernel
theorem dX8_set_30 : decode mX8_set.2.2.1 30 = .ok (.ireturn, 1) := by decide +kernel
theorem dX8_set_31 : decode mX8_set.2.2.1 31 = .ok (.aload_n 0, 1) := by decide +kernel
theorem dX8_set_32 : decode mX8_set.2.2.1 32 = .ok (.invokevirtual 78, 3) := by decide +kernel
theorem dX8_set_35 : decode mX8_set.2.2.1 35 = .ok (.aload_n 0, 1) := by decide +kernel
theorem dX8_set_36 : decode mX8_set.2.2.1 36 = .ok (.getfield 7, 3) := by decide +kernel
theorem dX8_set_39 : decode mX8_set.2.2.1 39 = .ok (.bipush 7, 2) := by decide +kernel
theorem dX8_set_41 : decode mX8_set.2.2.1 41 = .ok (.iload_n 1, 1) := by decide +kernel
theorem dX8_set_42 : decode mX8_set.2.2.1 42 = .ok (.iadd, 1) := by decide +kernel
theorem dX8_set_43 : decode mX8_set.2.2.1 43 = .ok (.iaload, 1) := by decide +kernel
theorem dX8_set_44 : decode mX8_set.2.2.1 44 = .ok (.istore_n 3, 1) := by decide +kernel
theorem dX8_set_45 : decode mX8_set.2.2.1 45 = .ok (.aload_n 0, 1) := by decide +kernel
theorem dX8_set_46 : decode mX8_set.2.2.1 46 = .ok (.getfield 7, 3) := by decide +kernel
theorem dX8_set_49 : decode mX8_set.2.2.1 49 = .ok (.bipush 7, 2) := by decide +kernel
theorem dX8_set_51 : decode mX8_set.2.2.1 51 = .ok (.iload_n 1, 1) := by decide +kernel
theorem dX8_set_52 : decode mX8_set.2.2.1 52 = .ok (.iadd, 1) := by decide +kernel
theorem dX8_set_53 : decode mX8_set.2.2.1 53 = .ok (.iload_n 2, 1) := by decide +kernel
theorem dX8_set_54 : decode mX8_set.2.2.1 54 = .ok (.iastore, 1) := by decide +kernel
theorem dX8_set_55 : decode mX8_set.2.2.1 55 = .ok (.iload_n 3, 1) := by decide +kernel
theorem dX8_set_56 : decode mX8_set.2.2.1 56 = .ok (.ireturn, 1) := by decide +kernel
theorem dX8_lotOf_0 : decode mX8_lotOf.2.2.1 0 = .ok (.aload_n 0, 1) := by decide +kernel
theorem dX8_lotOf_1 : decode mX8_lotOf.2.2.1 1 = .ok (.iload_n 1, 1) := by decide +kernel
theorem dX8_lotOf_2 : decode mX8_lotOf.2.2.1 2 = .ok (.invokevirtual 81, 3) := by decide +kernel
theorem dX8_lotOf_5 : decode mX8_lotOf.2.2.1 5 = .ok (.ifCond .eq 13, 3) := by decide +kernel
theorem dX8_lotOf_8 : decode mX8_lotOf.2.2.1 8 = .ok (.iload_n 2, 1) := by decide +kernel
theorem dX8_lotOf_9 : decode mX8_lotOf.2.2.1 9 = .ok (.iconst 0, 1) := by decide +kernel
theorem dX8_lotOf_10 : decode mX8_lotOf.2.2.1 10 = .ok (.bipush 9, 2) := by decide +kernel
theorem dX8_lotOf_12 : decode mX8_lotOf.2.2.1 12 = .ok (.invokestatic 72, 3) := by decide +kernel
theorem dX8_lotOf_15 : decode mX8_lotOf.2.2.1 15 = .ok (.ifCond .ne 6, 3) := by decide +kernel
theorem dX8_lotOf_18 : decode mX8_lotOf.2.2.1 18 = .ok (.ldc 76, 2) := by decide +kernel
theorem dX8_lotOf_20 : decode mX8_lotOf.2.2.1 20 = .ok (.ireturn, 1) := by decide +kernel
theorem dX8_lotOf_21 : decode mX8_lotOf.2.2.1 21 = .ok (.aload_n 0, 1) := by decide +kernel
theorem dX8_lotOf_22 : decode mX8_lotOf.2.2.1 22 = .ok (.iload_n 1, 1) := by decide +kernel
theorem dX8_lotOf_23 : decode mX8_lotOf.2.2.1 23 = .ok (.invokevirtual 62, 3) := by decide +kernel
theorem dX8_lotOf_26 : decode mX8_lotOf.2.2.1 26 = .ok (.iload_n 2, 1) := by decide +kernel
theorem dX8_lotOf_27 : decode mX8_lotOf.2.2.1 27 = .ok (.tableswitch 136 0 8 #[49, 49, 56, 61, 86, 110, 116, 122, 129], 49) := by decide +kernel
theorem dX8_lotOf_76 : decode mX8_lotOf.2.2.1 76 = .ok (.aload_n 0, 1) := by decide +kernel
theorem dX8_lotOf_77 : decode mX8_lotOf.2.2.1 77 = .ok (.iload_n 1, 1) := by decide +kernel
theorem dX8_lotOf_78 : decode mX8_lotOf.2.2.1 78 = .ok (.iload_n 2, 1) := by decide +kernel
theorem dX8_lotOf_79 : decode mX8_lotOf.2.2.1 79 = .ok (.invokevirtual 36, 3) := by decide +kernel
theorem dX8_lotOf_82 : decode mX8_lotOf.2.2.1 82 = .ok (.ireturn, 1) := by decide +kernel
theorem dX8_lotOf_83 : decode mX8_lotOf.2.2.1 83 = .ok (.aload_n 0, 1) := by decide +kernel
theorem dX8_lotOf_84 : decode mX8_lotOf.2.2.1 84 = .ok (.invokevirtual 58, 3) := by decide +kernel
theorem dX8_lotOf_87 : decode mX8_lotOf.2.2.1 87 = .ok (.ireturn, 1) := by decide +kernel
theorem dX8_lotOf_88 : decode mX8_lotOf.2.2.1 88 = .ok (.aload_n 0, 1) := by decide +kernel
theorem dX8_lotOf_89 : decode mX8_lotOf.2.2.1 89 = .ok (.iload_n 1, 1) := by decide +kernel
theorem dX8_lotOf_90 : decode mX8_lotOf.2.2.1 90 = .ok (.invokevirtual 85, 3) := by decide +kernel
theorem dX8_lotOf_93 : decode mX8_lotOf.2.2.1 93 = .ok (.ifCond .eq 13, 3) := by decide +kernel
theorem dX8_lotOf_96 : decode mX8_lotOf.2.2.1 96 = .ok (.aload_n 0, 1) := by decide +kernel
theorem dX8_lotOf_97 : decode mX8_lotOf.2.2.1 97 = .ok (.invokevirtual 58, 3) := by decide +kernel
theorem dX8_lotOf_100 : decode mX8_lotOf.2.2.1 100 = .ok (.bipush 90, 2) := by decide +kernel
theorem dX8_lotOf_102 : decode mX8_lotOf.2.2.1 102 = .ok (.idiv, 1) := by decide +kernel
theorem dX8_lotOf_103 : decode mX8_lotOf.2.2.1 103 = .ok (.goto 9, 3) := by decide +kernel
theorem dX8_lotOf_106 : decode mX8_lotOf.2.2.1 106 = .ok (.aload_n 0, 1) := by decide +kernel
theorem dX8_lotOf_107 : decode mX8_lotOf.2.2.1 107 = .ok (.iload_n 1, 1) := by decide +kernel
theorem dX8_lotOf_108 : decode mX8_lotOf.2.2.1 108 = .ok (.iconst 5, 1) := by decide +kernel
theorem dX8_lotOf_109 : decode mX8_lotOf.2.2.1 109 = .ok (.invokevirtual 36, 3) := by decide +kernel
theorem dX8_lotOf_112 : decode mX8_lotOf.2.2.1 112 = .ok (.ireturn, 1) := by decide +kernel
theorem dX8_lotOf_113 : decode mX8_lotOf.2.2.1 113 = .ok (.aload_n 0, 1) := by decide +kernel
theorem dX8_lotOf_114 : decode mX8_lotOf.2.2.1 114 = .ok (.iload_n 1, 1) := by decide +kernel
theorem dX8_lotOf_115 : decode mX8_lotOf.2.2.1 115 = .ok (.invokevirtual 85, 3) := by decide +kernel
theorem dX8_lotOf_118 : decode mX8_lotOf.2.2.1 118 = .ok (.ifCond .eq 11, 3) := by decide +kernel
theorem dX8_lotOf_121 : decode mX8_lotOf.2.2.1 121 = .ok (.aload_n 0, 1) := by decide +kernel
theorem dX8_lotOf_122 : decode mX8_lotOf.2.2.1 122 = .ok (.iload_n 1, 1) := by decide +kernel
theorem dX8_lotOf_123 : decode mX8_lotOf.2.2.1 123 = .ok (.invokevirtual 125, 3) := by decide +kernel
theorem dX8_lotOf_126 : decode mX8_lotOf.2.2.1 126 = .ok (.goto 10, 3) := by decide +kernel
theorem dX8_lotOf_129 : decode mX8_lotOf.2.2.1 129 = .ok (.aload_n 0, 1) := by decide +kernel
theorem dX8_lotOf_130 : decode mX8_lotOf.2.2.1 130 = .ok (.iload_n 1, 1) := by decide +kernel
theorem dX8_lotOf_131 : decode mX8_lotOf.2.2.1 131 = .ok (.bipush 6, 2) := by decide +kernel
theorem dX8_lotOf_133 : decode mX8_lotOf.2.2.1 133 = .ok (.invokevirtual 36, 3) := by decide +kernel
theorem dX8_lotOf_136 : decode mX8_lotOf.2.2.1 136 = .ok (.ireturn, 1) := by decide +kernel
theorem dX8_lotOf_137 : decode mX8_lotOf.2.2.1 137 = .ok (.aload_n 0, 1) := by decide +kernel
theorem dX8_lotOf_138 : decode mX8_lotOf.2.2.1 138 = .ok (.iload_n 1, 1) := by decide +kernel
theorem dX8_lotOf_139 : decode mX8_lotOf.2.2.1 139 = .ok (.invokevirtual 104, 3) := by decide +kernel
theorem dX8_lotOf_142 : decode mX8_lotOf.2.2.1 142 = .ok (.ireturn, 1) := by decide +kernel
theorem dX8_lotOf_143 : decode mX8_lotOf.2.2.1 143 = .ok (.aload_n 0, 1) := by decide +kernel
theorem dX8_lotOf_144 : decode mX8_lotOf.2.2.1 144 = .ok (.iload_n 1, 1) := by decide +kernel
theorem dX8_lotOf_145 : decode mX8_lotOf.2.2.1 145 = .ok (.invokevirtual 95, 3) := by decide +kernel
theorem dX8_lotOf_148 : decode mX8_lotOf.2.2.1 148 = .ok (.ireturn, 1) := by decide +kernel
theorem dX8_lotOf_149 : decode mX8_lotOf.2.2.1 149 = .ok (.aload_n 0, 1) := by decide +kernel
theorem dX8_lotOf_150 : decode mX8_lotOf.2.2.1 150 = .ok (.iload_n 1, 1) := by decide +kernel
theorem dX8_lotOf_151 : decode mX8_lotOf.2.2.1 151 = .ok (.iconst 3, 1) := by decide +kernel
theorem dX8_lotOf_152 : decode mX8_lotOf.2.2.1 152 = .ok (.invokevirtual 36, 3) := by decide +kernel
theorem dX8_lotOf_155 : decode mX8_lotOf.2.2.1 155 = .ok (.ireturn, 1) := by decide +kernel
theorem dX8_lotOf_156 : decode mX8_lotOf.2.2.1 156 = .ok (.aload_n 0, 1) := by decide +kernel
theorem dX8_lotOf_157 : decode mX8_lotOf.2.2.1 157 = .ok (.iload_n 1, 1) := by decide +kernel
theorem dX8_lotOf_158 : decode mX8_lotOf.2.2.1 158 = .ok (.iconst 4, 1) := by decide +kernel
theorem dX8_lotOf_159 : decode mX8_lotOf.2.2.1 159 = .ok (.invokevirtual 36, 3) := by decide +kernel
theorem dX8_lotOf_162 : decode mX8_lotOf.2.2.1 162 = .ok (.ireturn, 1) := by decide +kernel
theorem dX8_lotOf_163 : decode mX8_lotOf.2.2.1 163 = .ok (.aload_n 0, 1) := by decide +kernel
theorem dX8_lotOf_164 : decode mX8_lotOf.2.2.1 164 = .ok (.iload_n 1, 1) := by decide +kernel
theorem dX8_lotOf_165 : decode mX8_lotOf.2.2.1 165 = .ok (.bipush 7, 2) := by decide +kernel
theorem dX8_lotOf_167 : decode mX8_lotOf.2.2.1 167 = .ok (.invokevirtual 36, 3) := by decide +kernel
theorem dX8_lotOf_170 : decode mX8_lotOf.2.2.1 170 = .ok (.ireturn, 1) := by decide +kernel
theorem dX8_barrel_0 : decode mX8_barrel.2.2.1 0 = .ok (.aload_n 0, 1) := by decide +kernel
theorem dX8_barrel_1 : decode mX8_barrel.2.2.1 1 = .ok (.iload_n 1, 1) := by decide +kernel
theorem dX8_barrel_2 : decode mX8_barrel.2.2.1 2 = .ok (.invokevirtual 81, 3) := by decide +kernel
theorem dX8_barrel_5 : decode mX8_barrel.2.2.1 5 = .ok (.ifCond .eq 7, 3) := by decide +kernel
theorem dX8_barrel_8 : decode mX8_barrel.2.2.1 8 = .ok (.iload_n 2, 1) := by decide +kernel
theorem dX8_barrel_9 : decode mX8_barrel.2.2.1 9 = .ok (.ifCond .ge 6, 3) := by decide +kernel
theorem dX8_barrel_12 : decode mX8_barrel.2.2.1 12 = .ok (.ldc 76, 2) := by decide +kernel
theorem dX8_barrel_14 : decode mX8_barrel.2.2.1 14 = .ok (.ireturn, 1) := by decide +kernel
theorem dX8_barrel_15 : decode mX8_barrel.2.2.1 15 = .ok (.iload_n 2, 1) := by decide +kernel
theorem dX8_barrel_16 : decode mX8_barrel.2.2.1 16 = .ok (.aload_n 0, 1) := by decide +kernel
theorem dX8_barrel_17 : decode mX8_barrel.2.2.1 17 = .ok (.iload_n 1, 1) := by decide +kernel
theorem dX8_barrel_18 : decode mX8_barrel.2.2.1 18 = .ok (.iconst 0, 1) := by decide +kernel
theorem dX8_barrel_19 : decode mX8_barrel.2.2.1 19 = .ok (.invokevirtual 36, 3) := by decide +kernel
theorem dX8_barrel_22 : decode mX8_barrel.2.2.1 22 = .ok (.if_icmp .ge 15, 3) := by decide +kernel
theorem dX8_barrel_25 : decode mX8_barrel.2.2.1 25 = .ok (.aload_n 0, 1) := by decide +kernel
theorem dX8_barrel_26 : decode mX8_barrel.2.2.1 26 = .ok (.iload_n 1, 1) := by decide +kernel
theorem dX8_barrel_27 : decode mX8_barrel.2.2.1 27 = .ok (.bipush 8, 2) := by decide +kernel
theorem dX8_barrel_29 : decode mX8_barrel.2.2.1 29 = .ok (.iload_n 2, 1) := by decide +kernel
theorem dX8_barrel_30 : decode mX8_barrel.2.2.1 30 = .ok (.iadd, 1) := by decide +kernel
theorem dX8_barrel_31 : decode mX8_barrel.2.2.1 31 = .ok (.invokevirtual 36, 3) := by decide +kernel
theorem dX8_barrel_34 : decode mX8_barrel.2.2.1 34 = .ok (.goto 5, 3) := by decide +kernel
theorem dX8_barrel_37 : decode mX8_barrel.2.2.1 37 = .ok (.ldc 57, 2) := by decide +kernel
theorem dX8_barrel_39 : decode mX8_barrel.2.2.1 39 = .ok (.ireturn, 1) := by decide +kernel
theorem dX8_mean_0 : decode mX8_mean.2.2.1 0 = .ok (.aload_n 0, 1) := by decide +kernel
theorem dX8_mean_1 : decode mX8_mean.2.2.1 1 = .ok (.iload_n 1, 1) := by decide +kernel
theorem dX8_mean_2 : decode mX8_mean.2.2.1 2 = .ok (.iload_n 2, 1) := by decide +kernel
theorem dX8_mean_3 : decode mX8_mean.2.2.1 3 = .ok (.invokevirtual 44, 3) := by decide +kernel
theorem dX8_mean_6 : decode mX8_mean.2.2.1 6 = .ok (.istore_n 3, 1) := by decide +kernel
theorem dX8_mean_7 : decode mX8_mean.2.2.1 7 = .ok (.aload_n 0, 1) := by decide +kernel
theorem dX8_mean_8 : decode mX8_mean.2.2.1 8 = .ok (.getfield 7, 3) := by decide +kernel
theorem dX8_mean_11 : decode mX8_mean.2.2.1 11 = .ok (.iload_n 1, 1) := by decide +kernel
theorem dX8_mean_12 : decode mX8_mean.2.2.1 12 = .ok (.iload_n 2, 1) := by decide +kernel
theorem dX8_mean_13 : decode mX8_mean.2.2.1 13 = .ok (.iconst 1, 1) := by decide +kernel
theorem dX8_mean_14 : decode mX8_mean.2.2.1 14 = .ok (.invokestatic 40, 3) := by decide +kernel
theorem dX8_mean_17 : decode mX8_mean.2.2.1 17 = .ok (.iaload, 1) := by decide +kernel
theorem dX8_mean_18 : decode mX8_mean.2.2.1 18 = .ok (.i2f, 1) := by decide +kernel
theorem dX8_mean_19 : decode mX8_mean.2.2.1 19 = .ok (.iload_n 3, 1) := by decide +kernel
theorem dX8_mean_20 : decode mX8_mean.2.2.1 20 = .ok (.ifCond .ne 7, 3) := by decide +kernel
theorem dX8_mean_23 : decode mX8_mean.2.2.1 23 = .ok (.iconst 1, 1) := by decide +kernel
theorem dX8_mean_24 : decode mX8_mean.2.2.1 24 = .ok (.goto 4, 3) := by decide +kernel
theorem dX8_mean_27 : decode mX8_mean.2.2.1 27 = .ok (.iload_n 3, 1) := by decide +kernel
theorem dX8_mean_28 : decode mX8_mean.2.2.1 28 = .ok (.i2f, 1) := by decide +kernel
theorem dX8_mean_29 : decode mX8_mean.2.2.1 29 = .ok (.fdiv, 1) := by decide +kernel
theorem dX8_mean_30 : decode mX8_mean.2.2.1 30 = .ok (.fstore 4, 2) := by decide +kernel
theorem dX8_mean_32 : decode mX8_mean.2.2.1 32 = .ok (.iload_n 3, 1) := by decide +kernel
theorem dX8_mean_33 : decode mX8_mean.2.2.1 33 = .ok (.ifCond .ne 8, 3) := by decide +kernel
theorem dX8_mean_36 : decode mX8_mean.2.2.1 36 = .ok (.ldc 57, 2) := by decide +kernel
theorem dX8_mean_38 : decode mX8_mean.2.2.1 38 = .ok (.goto 8, 3) := by decide +kernel
theorem dX8_mean_41 : decode mX8_mean.2.2.1 41 = .ok (.fload 4, 2) := by decide +kernel
theorem dX8_mean_43 : decode mX8_mean.2.2.1 43 = .ok (.invokestatic 132, 3) := by decide +kernel
theorem dX8_mean_46 : decode mX8_mean.2.2.1 46 = .ok (.ireturn, 1) := by decide +kernel
theorem dX8_holding_0 : decode mX8_holding.2.2.1 0 = .ok (.aload_n 0, 1) := by decide +kernel
theorem dX8_holding_1 : decode mX8_holding.2.2.1 1 = .ok (.iload_n 1, 1) := by decide +kernel
theorem dX8_holding_2 : decode mX8_holding.2.2.1 2 = .ok (.invokevirtual 118, 3) := by decide +kernel
theorem dX8_holding_5 : decode mX8_holding.2.2.1 5 = .ok (.ifCond .eq 20, 3) := by decide +kernel
theorem dX8_holding_8 : decode mX8_holding.2.2.1 8 = .ok (.aload_n 0, 1) := by decide +kernel
theorem dX8_holding_9 : decode mX8_holding.2.2.1 9 = .ok (.iload_n 2, 1) := by decide +kernel
theorem dX8_holding_10 : decode mX8_holding.2.2.1 10 = .ok (.invokevirtual 81, 3) := by decide +kernel
theorem dX8_holding_13 : decode mX8_holding.2.2.1 13 = .ok (.ifCond .eq 12, 3) := by decide +kernel
theorem dX8_holding_16 : decode mX8_holding.2.2.1 16 = .ok (.iload_n 3, 1) := by decide +kernel
theorem dX8_holding_17 : decode mX8_holding.2.2.1 17 = .ok (.iconst 0, 1) := by decide +kernel
theorem dX8_holding_18 : decode mX8_holding.2.2.1 18 = .ok (.iconst 3, 1) := by decide +kernel
theorem dX8_holding_19 : decode mX8_holding.2.2.1 19 = .ok (.invokestatic 72, 3) := by decide +kernel
theorem dX8_holding_22 : decode mX8_holding.2.2.1 22 = .ok (.ifCond .ne 6, 3) := by decide +kernel
theorem dX8_holding_25 : decode mX8_holding.2.2.1 25 = .ok (.ldc 76, 2) := by decide +kernel
theorem dX8_holding_27 : decode mX8_holding.2.2.1 27 = .ok (.ireturn, 1) := by decide +kernel
theorem dX8_holding_28 : decode mX8_holding.2.2.1 28 = .ok (.iload_n 3, 1) := by decide +kernel
theorem dX8_holding_29 : decode mX8_holding.2.2.1 29 = .ok (.iconst 3, 1) := by decide +kernel
theorem dX8_holding_30 : decode mX8_holding.2.2.1 30 = .ok (.if_icmp .ge 17, 3) := by decide +kernel
theorem dX8_holding_33 : decode mX8_holding.2.2.1 33 = .ok (.aload_n 0, 1) := by decide +kernel
theorem dX8_holding_34 : decode mX8_holding.2.2.1 34 = .ok (.getfield 7, 3) := by decide +kernel
theorem dX8_holding_37 : decode mX8_holding.2.2.1 37 = .ok (.iload_n 1, 1) := by decide +kernel
theorem dX8_holding_38 : decode mX8_holding.2.2.1 38 = .ok (.iload_n 2, 1) := by decide +kernel
theorem dX8_holding_39 : decode mX8_holding.2.2.1 39 = .ok (.iload_n 3, 1) := by decide +kernel
theorem dX8_holding_40 : decode mX8_holding.2.2.1 40 = .ok (.invokestatic 40, 3) := by decide +kernel
theorem dX8_holding_43 : decode mX8_holding.2.2.1 43 = .ok (.iaload, 1) := by decide +kernel
theorem dX8_holding_44 : decode mX8_holding.2.2.1 44 = .ok (.goto 9, 3) := by decide +kernel
theorem dX8_holding_47 : decode mX8_holding.2.2.1 47 = .ok (.aload_n 0, 1) := by decide +kernel
theorem dX8_holding_48 : decode mX8_holding.2.2.1 48 = .ok (.iload_n 1, 1) := by decide +kernel
theorem dX8_holding_49 : decode mX8_holding.2.2.1 49 = .ok (.iload_n 2, 1) := by decide +kernel
theorem dX8_holding_50 : decode mX8_holding.2.2.1 50 = .ok (.invokevirtual 138, 3) := by decide +kernel
theorem dX8_holding_53 : decode mX8_holding.2.2.1 53 = .ok (.ireturn, 1) := by decide +kernel
theorem dX8_account_0 : decode mX8_account.2.2.1 0 = .ok (.iload_n 1, 1) := by decide +kernel
theorem dX8_account_1 : decode mX8_account.2.2.1 1 = .ok (.iconst (-1), 1) := by decide +kernel
theorem dX8_account_2 : decode mX8_account.2.2.1 2 = .ok (.if_icmp .ne 14, 3) := by decide +kernel
theorem dX8_account_5 : decode mX8_account.2.2.1 5 = .ok (.aload_n 0, 1) := by decide +kernel
theorem dX8_account_6 : decode mX8_account.2.2.1 6 = .ok (.getfield 7, 3) := by decide +kernel
theorem dX8_account_9 : decode mX8_account.2.2.1 9 = .ok (.sipush 135, 3) := by decide +kernel
theorem dX8_account_12 : decode mX8_account.2.2.1 12 = .ok (.iaload, 1) := by decide +kernel
theorem dX8_account_13 : decode mX8_account.2.2.1 13 = .ok (.goto 26, 3) := by decide +kernel
theorem dX8_account_16 : decode mX8_account.2.2.1 16 = .ok (.aload_n 0, 1) := by decide +kernel
theorem dX8_account_17 : decode mX8_account.2.2.1 17 = .ok (.iload_n 1, 1) := by decide +kernel
theorem dX8_account_18 : decode mX8_account.2.2.1 18 = .ok (.invokevirtual 118, 3) := by decide +kernel
theorem dX8_account_21 : decode mX8_account.2.2.1 21 = .ok (.ifCond .eq 16, 3) := by decide +kernel
theorem dX8_account_24 : decode mX8_account.2.2.1 24 = .ok (.aload_n 0, 1) := by decide +kernel
theorem dX8_account_25 : decode mX8_account.2.2.1 25 = .ok (.getfield 7, 3) := by decide +kernel
theorem dX8_account_28 : decode mX8_account.2.2.1 28 = .ok (.sipush 129, 3) := by decide +kernel
theorem dX8_account_31 : decode mX8_account.2.2.1 31 = .ok (.iload_n 1, 1) := by decide +kernel
theorem dX8_account_32 : decode mX8_account.2.2.1 32 = .ok (.iadd, 1) := by decide +kernel
theorem dX8_account_33 : decode mX8_account.2.2.1 33 = .ok (.iaload, 1) := by decide +kernel
theorem dX8_account_34 : decode mX8_account.2.2.1 34 = .ok (.goto 5, 3) := by decide +kernel
theorem dX8_account_37 : decode mX8_account.2.2.1 37 = .ok (.ldc 76, 2) := by decide +kernel
theorem dX8_account_39 : decode mX8_account.2.2.1 39 = .ok (.ireturn, 1) := by decide +kernel
theorem dX8_entry_0 : decode mX8_entry.2.2.1 0 = .ok (.iload_n 1, 1) := by decide +kernel
theorem dX8_entry_1 : decode mX8_entry.2.2.1 1 = .ok (.ifCond .lt 12, 3) := by decide +kernel
theorem dX8_entry_4 : decode mX8_entry.2.2.1 4 = .ok (.iload_n 2, 1) := by decide +kernel
theorem dX8_entry_5 : decode mX8_entry.2.2.1 5 = .ok (.iconst 0, 1) := by decide +kernel
theorem dX8_entry_6 : decode mX8_entry.2.2.1 6 = .ok (.iconst 5, 1) := by decide +kernel
theorem dX8_entry_7 : decode mX8_entry.2.2.1 7 = .ok (.invokestatic 72, 3) := by decide +kernel
theorem dX8_entry_10 : decode mX8_entry.2.2.1 10 = .ok (.ifCond .ne 6, 3) := by decide +kernel
theorem dX8_entry_13 : decode mX8_entry.2.2.1 13 = .ok (.ldc 76, 2) := by decide +kernel
theorem dX8_entry_15 : decode mX8_entry.2.2.1 15 = .ok (.ireturn, 1) := by decide +kernel
theorem dX8_entry_16 : decode mX8_entry.2.2.1 16 = .ok (.iload_n 1, 1) := by decide +kernel
theorem dX8_entry_17 : decode mX8_entry.2.2.1 17 = .ok (.aload_n 0, 1) := by decide +kernel
theorem dX8_entry_18 : decode mX8_entry.2.2.1 18 = .ok (.getfield 7, 3) := by decide +kernel
theorem dX8_entry_21 : decode mX8_entry.2.2.1 21 = .ok (.bipush 6, 2) := by decide +kernel
theorem dX8_entry_23 : decode mX8_entry.2.2.1 23 = .ok (.iaload, 1) := by decide +kernel
theorem dX8_entry_24 : decode mX8_entry.2.2.1 24 = .ok (.if_icmp .ge 21, 3) := by decide +kernel
theorem dX8_entry_27 : decode mX8_entry.2.2.1 27 = .ok (.aload_n 0, 1) := by decide +kernel
theorem dX8_entry_28 : decode mX8_entry.2.2.1 28 = .ok (.getfield 7, 3) := by decide +kernel
theorem dX8_entry_31 : decode mX8_entry.2.2.1 31 = .ok (.sipush 244, 3) := by decide +kernel
theorem dX8_entry_34 : decode mX8_entry.2.2.1 34 = .ok (.bipush 6, 2) := by decide +kernel
theorem dX8_entry_36 : decode mX8_entry.2.2.1 36 = .ok (.iload_n 1, 1) := by decide +kernel
theorem dX8_entry_37 : decode mX8_entry.2.2.1 37 = .ok (.imul, 1) := by decide +kernel
theorem dX8_entry_38 : decode mX8_entry.2.2.1 38 = .ok (.iadd, 1) := by decide +kernel
theorem dX8_entry_39 : decode mX8_entry.2.2.1 39 = .ok (.iload_n 2, 1) := by decide +kernel
theorem dX8_entry_40 : decode mX8_entry.2.2.1 40 = .ok (.iadd, 1) := by decide +kernel
theorem dX8_entry_41 : decode mX8_entry.2.2.1 41 = .ok (.iaload, 1) := by decide +kernel
theorem dX8_entry_42 : decode mX8_entry.2.2.1 42 = .ok (.goto 5, 3) := by decide +kernel
theorem dX8_entry_45 : decode mX8_entry.2.2.1 45 = .ok (.ldc 57, 2) := by decide +kernel
theorem dX8_entry_47 : decode mX8_entry.2.2.1 47 = .ok (.ireturn, 1) := by decide +kernel
theorem dX8_cases_0 : decode mX8_cases.2.2.1 0 = .ok (.aload_n 0, 1) := by decide +kernel
theorem dX8_cases_1 : decode mX8_cases.2.2.1 1 = .ok (.iload_n 1, 1) := by decide +kernel
theorem dX8_cases_2 : decode mX8_cases.2.2.1 2 = .ok (.invokevirtual 81, 3) := by decide +kernel
theorem dX8_cases_5 : decode mX8_cases.2.2.1 5 = .ok (.ifCond .eq 13, 3) := by decide +kernel
theorem dX8_cases_8 : decode mX8_cases.2.2.1 8 = .ok (.iload_n 2, 1) := by decide +kernel
theorem dX8_cases_9 : decode mX8_cases.2.2.1 9 = .ok (.iconst 0, 1) := by decide +kernel
theorem dX8_cases_10 : decode mX8_cases.2.2.1 10 = .ok (.bipush 120, 2) := by decide +kernel
theorem dX8_cases_12 : decode mX8_cases.2.2.1 12 = .ok (.invokestatic 72, 3) := by decide +kernel
theorem dX8_cases_15 : decode mX8_cases.2.2.1 15 = .ok (.ifCond .ne 6, 3) := by decide +kernel
theorem dX8_cases_18 : decode mX8_cases.2.2.1 18 = .ok (.ldc 76, 2) := by decide +kernel
theorem dX8_cases_20 : decode mX8_cases.2.2.1 20 = .ok (.ireturn, 1) := by decide +kernel
theorem dX8_cases_21 : decode mX8_cases.2.2.1 21 = .ok (.aload_n 0, 1) := by decide +kernel
theorem dX8_cases_22 : decode mX8_cases.2.2.1 22 = .ok (.iload_n 1, 1) := by decide +kernel
theorem dX8_cases_23 : decode mX8_cases.2.2.1 23 = .ok (.invokevirtual 62, 3) := by decide +kernel
theorem dX8_cases_26 : decode mX8_cases.2.2.1 26 = .ok (.aload_n 0, 1) := by decide +kernel
theorem dX8_cases_27 : decode mX8_cases.2.2.1 27 = .ok (.iload_n 1, 1) := by decide +kernel
theorem dX8_cases_28 : decode mX8_cases.2.2.1 28 = .ok (.invokevirtual 85, 3) := by decide +kernel
theorem dX8_cases_31 : decode mX8_cases.2.2.1 31 = .ok (.ifCond .eq 12, 3) := by decide +kernel
theorem dX8_cases_34 : decode mX8_cases.2.2.1 34 = .ok (.aload_n 0, 1) := by decide +kernel
theorem dX8_cases_35 : decode mX8_cases.2.2.1 35 = .ok (.iload_n 1, 1) := by decide +kernel
theorem dX8_cases_36 : decode mX8_cases.2.2.1 36 = .ok (.iload_n 2, 1) := by decide +kernel
theorem dX8_cases_37 : decode mX8_cases.2.2.1 37 = .ok (.invokevirtual 66, 3) := by decide +kernel
theorem dX8_cases_40 : decode mX8_cases.2.2.1 40 = .ok (.goto 5, 3) := by decide +kernel
theorem dX8_cases_43 : decode mX8_cases.2.2.1 43 = .ok (.ldc 91, 2) := by decide +kernel
theorem dX8_cases_45 : decode mX8_cases.2.2.1 45 = .ok (.ireturn, 1) := by decide +kernel
theorem dX8_sellable_0 : decode mX8_sellable.2.2.1 0 = .ok (.aload_n 0, 1) := by decide +kernel
theorem dX8_sellable_1 : decode mX8_sellable.2.2.1 1 = .ok (.iload_n 1, 1) := by decide +kernel
theorem dX8_sellable_2 : decode mX8_sellable.2.2.1 2 = .ok (.invokevirtual 81, 3) := by decide +kernel
theorem dX8_sellable_5 : decode mX8_sellable.2.2.1 5 = .ok (.ifCond .ne 6, 3) := by decide +kernel
theorem dX8_sellable_8 : decode mX8_sellable.2.2.1 8 = .ok (.ldc 76, 2) := by decide +kernel
theorem dX8_sellable_10 : decode mX8_sellable.2.2.1 10 = .ok (.ireturn, 1) := by decide +kernel
theorem dX8_sellable_11 : decode mX8_sellable.2.2.1 11 = .ok (.aload_n 0, 1) := by decide +kernel
theorem dX8_sellable_12 : decode mX8_sellable.2.2.1 12 = .ok (.iload_n 1, 1) := by decide +kernel
theorem dX8_sellable_13 : decode mX8_sellable.2.2.1 13 = .ok (.invokevirtual 85, 3) := by decide +kernel
theorem dX8_sellable_16 : decode mX8_sellable.2.2.1 16 = .ok (.ifCond .ne 6, 3) := by decide +kernel
theorem dX8_sellable_19 : decode mX8_sellable.2.2.1 19 = .ok (.ldc 91, 2) := by decide +kernel
theorem dX8_sellable_21 : decode mX8_sellable.2.2.1 21 = .ok (.ireturn, 1) := by decide +kernel
theorem dX8_sellable_22 : decode mX8_sellable.2.2.1 22 = .ok (.aload_n 0, 1) := by decide +kernel
theorem dX8_sellable_23 : decode mX8_sellable.2.2.1 23 = .ok (.iload_n 1, 1) := by decide +kernel
theorem dX8_sellable_24 : decode mX8_sellable.2.2.1 24 = .ok (.invokevirtual 125, 3) := by decide +kernel
theorem dX8_sellable_27 : decode mX8_sellable.2.2.1 27 = .ok (.aload_n 0, 1) := by decide +kernel
theorem dX8_sellable_28 : decode mX8_sellable.2.2.1 28 = .ok (.iload_n 1, 1) := by decide +kernel
theorem dX8_sellable_29 : decode mX8_sellable.2.2.1 29 = .ok (.invokevirtual 104, 3) := by decide +kernel
theorem dX8_sellable_32 : decode mX8_sellable.2.2.1 32 = .ok (.isub, 1) := by decide +kernel
theorem dX8_sellable_33 : decode mX8_sellable.2.2.1 33 = .ok (.istore_n 2, 1) := by decide +kernel
theorem dX8_sellable_34 : decode mX8_sellable.2.2.1 34 = .ok (.iload_n 2, 1) := by decide +kernel
theorem dX8_sellable_35 : decode mX8_sellable.2.2.1 35 = .ok (.ifCond .ge 7, 3) := by decide +kernel
theorem dX8_sellable_38 : decode mX8_sellable.2.2.1 38 = .ok (.iconst 0, 1) := by decide +kernel
theorem dX8_sellable_39 : decode mX8_sellable.2.2.1 39 = .ok (.goto 4, 3) := by decide +kernel
theorem dX8_sellable_42 : decode mX8_sellable.2.2.1 42 = .ok (.iload_n 2, 1) := by decide +kernel
theorem dX8_sellable_43 : decode mX8_sellable.2.2.1 43 = .ok (.ireturn, 1) := by decide +kernel
theorem dX8_deadline_0 : decode mX8_deadline.2.2.1 0 = .ok (.aload_n 0, 1) := by decide +kernel
theorem dX8_deadline_1 : decode mX8_deadline.2.2.1 1 = .ok (.iload_n 1, 1) := by decide +kernel
theorem dX8_deadline_2 : decode mX8_deadline.2.2.1 2 = .ok (.invokevirtual 81, 3) := by decide +kernel
theorem dX8_deadline_5 : decode mX8_deadline.2.2.1 5 = .ok (.ifCond .ne 6, 3) := by decide +kernel
theorem dX8_deadline_8 : decode mX8_deadline.2.2.1 8 = .ok (.ldc 76, 2) := by decide +kernel
theorem dX8_deadline_10 : decode mX8_deadline.2.2.1 10 = .ok (.ireturn, 1) := by decide +kernel
theorem dX8_deadline_11 : decode mX8_deadline.2.2.1 11 = .ok (.aload_n 0, 1) := by decide +kernel
theorem dX8_deadline_12 : decode mX8_deadline.2.2.1 12 = .ok (.iload_n 1, 1) := by decide +kernel
theorem dX8_deadline_13 : decode mX8_deadline.2.2.1 13 = .ok (.invokevirtual 85, 3) := by decide +kernel
theorem dX8_deadline_16 : decode mX8_deadline.2.2.1 16 = .ok (.ifCond .ne 6, 3) := by decide +kernel
theorem dX8_deadline_19 : decode mX8_deadline.2.2.1 19 = .ok (.ldc 91, 2) := by decide +kernel
theorem dX8_deadline_21 : decode mX8_deadline.2.2.1 21 = .ok (.ireturn, 1) := by decide +kernel
theorem dX8_deadline_22 : decode mX8_deadline.2.2.1 22 = .ok (.aload_n 0, 1) := by decide +kernel
theorem dX8_deadline_23 : decode mX8_deadline.2.2.1 23 = .ok (.iload_n 1, 1) := by decide +kernel
theorem dX8_deadline_24 : decode mX8_deadline.2.2.1 24 = .ok (.invokevirtual 62, 3) := by decide +kernel
theorem dX8_deadline_27 : decode mX8_deadline.2.2.1 27 = .ok (.aload_n 0, 1) := by decide +kernel
theorem dX8_deadline_28 : decode mX8_deadline.2.2.1 28 = .ok (.iload_n 1, 1) := by decide +kernel
theorem dX8_deadline_29 : decode mX8_deadline.2.2.1 29 = .ok (.invokevirtual 104, 3) := by decide +kernel
theorem dX8_deadline_32 : decode mX8_deadline.2.2.1 32 = .ok (.istore_n 2, 1) := by decide +kernel
theorem dX8_deadline_33 : decode mX8_deadline.2.2.1 33 = .ok (.iconst 0, 1) := by decide +kernel
theorem dX8_deadline_34 : decode mX8_deadline.2.2.1 34 = .ok (.istore_n 3, 1) := by decide +kernel
theorem dX8_deadline_35 : decode mX8_deadline.2.2.1 35 = .ok (.iload_n 3, 1) := by decide +kernel
theorem dX8_deadline_36 : decode mX8_deadline.2.2.1 36 = .ok (.bipush 120, 2) := by decide +kernel
theorem dX8_deadline_38 : decode mX8_deadline.2.2.1 38 = .ok (.if_icmp .gt 27, 3) := by decide +kernel
theorem dX8_deadline_41 : decode mX8_deadline.2.2.1 41 = .ok (.aload_n 0, 1) := by decide +kernel
theorem dX8_deadline_42 : decode mX8_deadline.2.2.1 42 = .ok (.iload_n 1, 1) := by decide +kernel
theorem dX8_deadline_43 : decode mX8_deadline.2.2.1 43 = .ok (.iload_n 3, 1) := by decide +kernel
theorem dX8_deadline_44 : decode mX8_deadline.2.2.1 44 = .ok (.ifCond .ne 7, 3) := by decide +kernel
theorem dX8_deadline_47 : decode mX8_deadline.2.2.1 47 = .ok (.iconst 0, 1) := by decide +kernel
theorem dX8_deadline_48 : decode mX8_deadline.2.2.1 48 = .ok (.goto 4, 3) := by decide +kernel
theorem dX8_deadline_51 : decode mX8_deadline.2.2.1 51 = .ok (.iconst 1, 1) := by decide +kernel
theorem dX8_deadline_52 : decode mX8_deadline.2.2.1 52 = .ok (.invokevirtual 66, 3) := by decide +kernel
theorem dX8_deadline_55 : decode mX8_deadline.2.2.1 55 = .ok (.iload_n 2, 1) := by decide +kernel
theorem dX8_deadline_56 : decode mX8_deadline.2.2.1 56 = .ok (.if_icmp .lt 9, 3) := by decide +kernel
theorem dX8_deadline_59 : decode mX8_deadline.2.2.1 59 = .ok (.iinc 3 1, 3) := by decide +kernel
theorem dX8_deadline_62 : decode mX8_deadline.2.2.1 62 = .ok (.goto (-27), 3) := by decide +kernel
theorem dX8_deadline_65 : decode mX8_deadline.2.2.1 65 = .ok (.iload_n 3, 1) := by decide +kernel
theorem dX8_deadline_66 : decode mX8_deadline.2.2.1 66 = .ok (.bipush 120, 2) := by decide +kernel
theorem dX8_deadline_68 : decode mX8_deadline.2.2.1 68 = .ok (.if_icmp .le 8, 3) := by decide +kernel
theorem dX8_deadline_71 : decode mX8_deadline.2.2.1 71 = .ok (.ldc 57, 2) := by decide +kernel
theorem dX8_deadline_73 : decode mX8_deadline.2.2.1 73 = .ok (.goto 4, 3) := by decide +kernel
theorem dX8_deadline_76 : decode mX8_deadline.2.2.1 76 = .ok (.iload_n 3, 1) := by decide +kernel
theorem dX8_deadline_77 : decode mX8_deadline.2.2.1 77 = .ok (.ireturn, 1) := by decide +kernel
theorem dX8_topping_0 : decode mX8_topping.2.2.1 0 = .ok (.aload_n 0, 1) := by decide +kernel
theorem dX8_topping_1 : decode mX8_topping.2.2.1 1 = .ok (.iload_n 1, 1) := by decide +kernel
theorem dX8_topping_2 : decode mX8_topping.2.2.1 2 = .ok (.invokevirtual 81, 3) := by decide +kernel
theorem dX8_topping_5 : decode mX8_topping.2.2.1 5 = .ok (.ifCond .ne 6, 3) := by decide +kernel
theorem dX8_topping_8 : decode mX8_topping.2.2.1 8 = .ok (.ldc 76, 2) := by decide +kernel
theorem dX8_topping_10 : decode mX8_topping.2.2.1 10 = .ok (.ireturn, 1) := by decide +kernel
theorem dX8_topping_11 : decode mX8_topping.2.2.1 11 = .ok (.aload_n 0, 1) := by decide +kernel
theorem dX8_topping_12 : decode mX8_topping.2.2.1 12 = .ok (.iload_n 1, 1) := by decide +kernel
theorem dX8_topping_13 : decode mX8_topping.2.2.1 13 = .ok (.invokevirtual 62, 3) := by decide +kernel
theorem dX8_topping_16 : decode mX8_topping.2.2.1 16 = .ok (.aload_n 0, 1) := by decide +kernel
theorem dX8_topping_17 : decode mX8_topping.2.2.1 17 = .ok (.iload_n 1, 1) := by decide +kernel
theorem dX8_topping_18 : decode mX8_topping.2.2.1 18 = .ok (.invokevirtual 85, 3) := by decide +kernel
theorem dX8_topping_21 : decode mX8_topping.2.2.1 21 = .ok (.ifCond .eq 10, 3) := by decide +kernel
theorem dX8_topping_24 : decode mX8_topping.2.2.1 24 = .ok (.aload_n 0, 1) := by decide +kernel
theorem dX8_topping_25 : decode mX8_topping.2.2.1 25 = .ok (.invokevirtual 69, 3) := by decide +kernel
theorem dX8_topping_28 : decode mX8_topping.2.2.1 28 = .ok (.ifCond .ge 6, 3) := by decide +kernel
theorem dX8_topping_31 : decode mX8_topping.2.2.1 31 = .ok (.ldc 91, 2) := by decide +kernel
theorem dX8_topping_33 : decode mX8_topping.2.2.1 33 = .ok (.ireturn, 1) := by decide +kernel
theorem dX8_topping_34 : decode mX8_topping.2.2.1 34 = .ok (.aload_n 0, 1) := by decide +kernel
theorem dX8_topping_35 : decode mX8_topping.2.2.1 35 = .ok (.iload_n 1, 1) := by decide +kernel
theorem dX8_topping_36 : decode mX8_topping.2.2.1 36 = .ok (.aload_n 0, 1) := by decide +kernel
theorem dX8_topping_37 : decode mX8_topping.2.2.1 37 = .ok (.getfield 7, 3) := by decide +kernel
theorem dX8_topping_40 : decode mX8_topping.2.2.1 40 = .ok (.bipush 8, 2) := by decide +kernel
theorem dX8_topping_42 : decode mX8_topping.2.2.1 42 = .ok (.iaload, 1) := by decide +kernel
theorem dX8_topping_43 : decode mX8_topping.2.2.1 43 = .ok (.invokevirtual 66, 3) := by decide +kernel
theorem dX8_topping_46 : decode mX8_topping.2.2.1 46 = .ok (.istore_n 2, 1) := by decide +kernel
theorem dX8_topping_47 : decode mX8_topping.2.2.1 47 = .ok (.aload_n 0, 1) := by decide +kernel
theorem dX8_topping_48 : decode mX8_topping.2.2.1 48 = .ok (.iload_n 1, 1) := by decide +kernel
theorem dX8_topping_49 : decode mX8_topping.2.2.1 49 = .ok (.invokevirtual 62, 3) := by decide +kernel
theorem dX8_topping_52 : decode mX8_topping.2.2.1 52 = .ok (.aload_n 0, 1) := by decide +kernel
theorem dX8_topping_53 : decode mX8_topping.2.2.1 53 = .ok (.invokevirtual 98, 3) := by decide +kernel
theorem dX8_topping_56 : decode mX8_topping.2.2.1 56 = .ok (.aload_n 0, 1) := by decide +kernel
theorem dX8_topping_57 : decode mX8_topping.2.2.1 57 = .ok (.iload_n 1, 1) := by decide +kernel
theorem dX8_topping_58 : decode mX8_topping.2.2.1 58 = .ok (.aload_n 0, 1) := by decide +kernel
theorem dX8_topping_59 : decode mX8_topping.2.2.1 59 = .ok (.getfield 7, 3) := by decide +kernel
theorem dX8_topping_62 : decode mX8_topping.2.2.1 62 = .ok (.bipush 8, 2) := by decide +kernel
theorem dX8_topping_64 : decode mX8_topping.2.2.1 64 = .ok (.iaload, 1) := by decide +kernel
theorem dX8_topping_65 : decode mX8_topping.2.2.1 65 = .ok (.invokevirtual 66, 3) := by decide +kernel
theorem dX8_topping_68 : decode mX8_topping.2.2.1 68 = .ok (.iload_n 2, 1) := by decide +kernel
theorem dX8_topping_69 : decode mX8_topping.2.2.1 69 = .ok (.isub, 1) := by decide +kernel
theorem dX8_topping_70 : decode mX8_topping.2.2.1 70 = .ok (.ireturn, 1) := by decide +kernel
theorem dX8_loser_0 : decode mX8_loser.2.2.1 0 = .ok (.aload_n 0, 1) := by decide +kernel
theorem dX8_loser_1 : decode mX8_loser.2.2.1 1 = .ok (.iload_n 1, 1) := by decide +kernel
theorem dX8_loser_2 : decode mX8_loser.2.2.1 2 = .ok (.invokevirtual 81, 3) := by decide +kernel
theorem dX8_loser_5 : decode mX8_loser.2.2.1 5 = .ok (.ifCond .eq 12, 3) := by decide +kernel
theorem dX8_loser_8 : decode mX8_loser.2.2.1 8 = .ok (.iload_n 2, 1) := by decide +kernel
theorem dX8_loser_9 : decode mX8_loser.2.2.1 9 = .ok (.iconst 0, 1) := by decide +kernel
theorem dX8_loser_10 : decode mX8_loser.2.2.1 10 = .ok (.iconst 1, 1) := by decide +kernel
theorem dX8_loser_11 : decode mX8_loser.2.2.1 11 = .ok (.invokestatic 72, 3) := by decide +kernel
theorem dX8_loser_14 : decode mX8_loser.2.2.1 14 = .ok (.ifCond .ne 6, 3) := by decide +kernel
theorem dX8_loser_17 : decode mX8_loser.2.2.1 17 = .ok (.ldc 76, 2) := by decide +kernel
theorem dX8_loser_19 : decode mX8_loser.2.2.1 19 = .ok (.ireturn, 1) := by decide +kernel
theorem dX8_loser_20 : decode mX8_loser.2.2.1 20 = .ok (.aload_n 0, 1) := by decide +kernel
theorem dX8_loser_21 : decode mX8_loser.2.2.1 21 = .ok (.iload_n 1, 1) := by decide +kernel
theorem dX8_loser_22 : decode mX8_loser.2.2.1 22 = .ok (.invokevirtual 85, 3) := by decide +kernel
theorem dX8_loser_25 : decode mX8_loser.2.2.1 25 = .ok (.ifCond .ne 6, 3) := by decide +kernel
theorem dX8_loser_28 : decode mX8_loser.2.2.1 28 = .ok (.ldc 91, 2) := by decide +kernel
theorem dX8_loser_30 : decode mX8_loser.2.2.1 30 = .ok (.ireturn, 1) := by decide +kernel
theorem dX8_loser_31 : decode mX8_loser.2.2.1 31 = .ok (.aload_n 0, 1) := by decide +kernel
theorem dX8_loser_32 : decode mX8_loser.2.2.1 32 = .ok (.iload_n 1, 1) := by decide +kernel
theorem dX8_loser_33 : decode mX8_loser.2.2.1 33 = .ok (.invokevirtual 62, 3) := by decide +kernel
theorem dX8_loser_36 : decode mX8_loser.2.2.1 36 = .ok (.ldc 57, 2) := by decide +kernel
theorem dX8_loser_38 : decode mX8_loser.2.2.1 38 = .ok (.istore_n 3, 1) := by decide +kernel
theorem dX8_loser_39 : decode mX8_loser.2.2.1 39 = .ok (.iconst 0, 1) := by decide +kernel
theorem dX8_loser_40 : decode mX8_loser.2.2.1 40 = .ok (.istore 4, 2) := by decide +kernel
theorem dX8_loser_42 : decode mX8_loser.2.2.1 42 = .ok (.iconst 0, 1) := by decide +kernel
theorem dX8_loser_43 : decode mX8_loser.2.2.1 43 = .ok (.istore 5, 2) := by decide +kernel
theorem dX8_loser_45 : decode mX8_loser.2.2.1 45 = .ok (.iload 5, 2) := by decide +kernel
theorem dX8_loser_47 : decode mX8_loser.2.2.1 47 = .ok (.aload_n 0, 1) := by decide +kernel
theorem dX8_loser_48 : decode mX8_loser.2.2.1 48 = .ok (.getfield 7, 3) := by decide +kernel
theorem dX8_loser_51 : decode mX8_loser.2.2.1 51 = .ok (.iconst 1, 1) := by decide +kernel
theorem dX8_loser_52 : decode mX8_loser.2.2.1 52 = .ok (.iaload, 1) := by decide +kernel
theorem dX8_loser_53 : decode mX8_loser.2.2.1 53 = .ok (.if_icmp .ge 60, 3) := by decide +kernel
theorem dX8_loser_56 : decode mX8_loser.2.2.1 56 = .ok (.aload_n 0, 1) := by decide +kernel
theorem dX8_loser_57 : decode mX8_loser.2.2.1 57 = .ok (.iload 5, 2) := by decide +kernel
theorem dX8_loser_59 : decode mX8_loser.2.2.1 59 = .ok (.iload_n 1, 1) := by decide +kernel
theorem dX8_loser_60 : decode mX8_loser.2.2.1 60 = .ok (.aload_n 0, 1) := by decide +kernel
theorem dX8_loser_61 : decode mX8_loser.2.2.1 61 = .ok (.invokevirtual 58, 3) := by decide +kernel
theorem dX8_loser_64 : decode mX8_loser.2.2.1 64 = .ok (.bipush 90, 2) := by decide +kernel
theorem dX8_loser_66 : decode mX8_loser.2.2.1 66 = .ok (.idiv, 1) := by decide +kernel
theorem dX8_loser_67 : decode mX8_loser.2.2.1 67 = .ok (.aload_n 0, 1) := by decide +kernel
theorem dX8_loser_68 : decode mX8_loser.2.2.1 68 = .ok (.iload_n 1, 1) := by decide +kernel
theorem dX8_loser_69 : decode mX8_loser.2.2.1 69 = .ok (.invokevirtual 104, 3) := by decide +kernel
theorem dX8_loser_72 : decode mX8_loser.2.2.1 72 = .ok (.invokevirtual 107, 3) := by decide +kernel
theorem dX8_loser_75 : decode mX8_loser.2.2.1 75 = .ok (.istore 6, 2) := by decide +kernel
theorem dX8_loser_77 : decode mX8_loser.2.2.1 77 = .ok (.iload 6, 2) := by decide +kernel
theorem dX8_loser_79 : decode mX8_loser.2.2.1 79 = .ok (.iload 4, 2) := by decide +kernel
theorem dX8_loser_81 : decode mX8_loser.2.2.1 81 = .ok (.if_icmp .le 8, 3) := by decide +kernel
theorem dX8_loser_84 : decode mX8_loser.2.2.1 84 = .ok (.iload 5, 2) := by decide +kernel
theorem dX8_loser_86 : decode mX8_loser.2.2.1 86 = .ok (.goto 4, 3) := by decide +kernel
theorem dX8_loser_89 : decode mX8_loser.2.2.1 89 = .ok (.iload_n 3, 1) := by decide +kernel
theorem dX8_loser_90 : decode mX8_loser.2.2.1 90 = .ok (.istore_n 3, 1) := by decide +kernel
theorem dX8_loser_91 : decode mX8_loser.2.2.1 91 = .ok (.iload 6, 2) := by decide +kernel
theorem dX8_loser_93 : decode mX8_loser.2.2.1 93 = .ok (.iload 4, 2) := by decide +kernel
theorem dX8_loser_95 : decode mX8_loser.2.2.1 95 = .ok (.if_icmp .le 8, 3) := by decide +kernel
theorem dX8_loser_98 : decode mX8_loser.2.2.1 98 = .ok (.iload 6, 2) := by decide +kernel
theorem dX8_loser_100 : decode mX8_loser.2.2.1 100 = .ok (.goto 5, 3) := by decide +kernel
theorem dX8_loser_103 : decode mX8_loser.2.2.1 103 = .ok (.iload 4, 2) := by decide +kernel
theorem dX8_loser_105 : decode mX8_loser.2.2.1 105 = .ok (.istore 4, 2) := by decide +kernel
theorem dX8_loser_107 : decode mX8_loser.2.2.1 107 = .ok (.iinc 5 1, 3) := by decide +kernel
theorem dX8_loser_110 : decode mX8_loser.2.2.1 110 = .ok (.goto (-65), 3) := by decide +kernel
theorem dX8_loser_113 : decode mX8_loser.2.2.1 113 = .ok (.iload_n 3, 1) := by decide +kernel
theorem dX8_loser_114 : decode mX8_loser.2.2.1 114 = .ok (.ifCond .lt 7, 3) := by decide +kernel
theorem dX8_loser_117 : decode mX8_loser.2.2.1 117 = .ok (.iload_n 2, 1) := by decide +kernel
theorem dX8_loser_118 : decode mX8_loser.2.2.1 118 = .ok (.ifCond .ne 7, 3) := by decide +kernel
theorem dX8_loser_121 : decode mX8_loser.2.2.1 121 = .ok (.iload_n 3, 1) := by decide +kernel
theorem dX8_loser_122 : decode mX8_loser.2.2.1 122 = .ok (.goto 5, 3) := by decide +kernel
theorem dX8_loser_125 : decode mX8_loser.2.2.1 125 = .ok (.iload 4, 2) := by decide +kernel
theorem dX8_loser_127 : decode mX8_loser.2.2.1 127 = .ok (.ireturn, 1) := by decide +kernel
theorem dX8_accounts_0 : decode mX8_accounts.2.2.1 0 = .ok (.iconst 0, 1) := by decide +kernel
theorem dX8_accounts_1 : decode mX8_accounts.2.2.1 1 = .ok (.istore_n 1, 1) := by decide +kernel
theorem dX8_accounts_2 : decode mX8_accounts.2.2.1 2 = .ok (.iconst 0, 1) := by decide +kernel
theorem dX8_accounts_3 : decode mX8_accounts.2.2.1 3 = .ok (.istore_n 2, 1) := by decide +kernel
theorem dX8_accounts_4 : decode mX8_accounts.2.2.1 4 = .ok (.iload_n 2, 1) := by decide +kernel
theorem dX8_accounts_5 : decode mX8_accounts.2.2.1 5 = .ok (.bipush 6, 2) := by decide +kernel
theorem dX8_accounts_7 : decode mX8_accounts.2.2.1 7 = .ok (.if_icmp .gt 22, 3) := by decide +kernel
theorem dX8_accounts_10 : decode mX8_accounts.2.2.1 10 = .ok (.iload_n 1, 1) := by decide +kernel
theorem dX8_accounts_11 : decode mX8_accounts.2.2.1 11 = .ok (.aload_n 0, 1) := by decide +kernel
theorem dX8_accounts_12 : decode mX8_accounts.2.2.1 12 = .ok (.getfield 7, 3) := by decide +kernel
theorem dX8_accounts_15 : decode mX8_accounts.2.2.1 15 = .ok (.sipush 129, 3) := by decide +kernel
theorem dX8_accounts_18 : decode mX8_accounts.2.2.1 18 = .ok (.iload_n 2, 1) := by decide +kernel
theorem dX8_accounts_19 : decode mX8_accounts.2.2.1 19 = .ok (.iadd, 1) := by decide +kernel
theorem dX8_accounts_20 : decode mX8_accounts.2.2.1 20 = .ok (.iaload, 1) := by decide +kernel
theorem dX8_accounts_21 : decode mX8_accounts.2.2.1 21 = .ok (.iadd, 1) := by decide +kernel
theorem dX8_accounts_22 : decode mX8_accounts.2.2.1 22 = .ok (.istore_n 1, 1) := by decide +kernel
theorem dX8_accounts_23 : decode mX8_accounts.2.2.1 23 = .ok (.iinc 2 1, 3) := by decide +kernel
theorem dX8_accounts_26 : decode mX8_accounts.2.2.1 26 = .ok (.goto (-22), 3) := by decide +kernel
theorem dX8_accounts_29 : decode mX8_accounts.2.2.1 29 = .ok (.iload_n 1, 1) := by decide +kernel
theorem dX8_accounts_30 : decode mX8_accounts.2.2.1 30 = .ok (.ireturn, 1) := by decide +kernel
theorem dX8_ofLots_0 : decode mX8_ofLots.2.2.1 0 = .ok (.iconst 0, 1) := by decide +kernel
theorem dX8_ofLots_1 : decode mX8_ofLots.2.2.1 1 = .ok (.istore_n 2, 1) := by decide +kernel
theorem dX8_ofLots_2 : decode mX8_ofLots.2.2.1 2 = .ok (.iconst 0, 1) := by decide +kernel
theorem dX8_ofLots_3 : decode mX8_ofLots.2.2.1 3 = .ok (.istore_n 3, 1) := by decide +kernel
theorem dX8_ofLots_4 : decode mX8_ofLots.2.2.1 4 = .ok (.iload_n 3, 1) := by decide +kernel
theorem dX8_ofLots_5 : decode mX8_ofLots.2.2.1 5 = .ok (.aload_n 0, 1) := by decide +kernel
theorem dX8_ofLots_6 : decode mX8_ofLots.2.2.1 6 = .ok (.getfield 7, 3) := by decide +kernel
theorem dX8_ofLots_9 : decode mX8_ofLots.2.2.1 9 = .ok (.iconst 0, 1) := by decide +kernel
theorem dX8_ofLots_10 : decode mX8_ofLots.2.2.1 10 = .ok (.iaload, 1) := by decide +kernel
theorem dX8_ofLots_11 : decode mX8_ofLots.2.2.1 11 = .ok (.if_icmp .ge 33, 3) := by decide +kernel
theorem dX8_ofLots_14 : decode mX8_ofLots.2.2.1 14 = .ok (.aload_n 0, 1) := by decide +kernel
theorem dX8_ofLots_15 : decode mX8_ofLots.2.2.1 15 = .ok (.iload_n 3, 1) := by decide +kernel
theorem dX8_ofLots_16 : decode mX8_ofLots.2.2.1 16 = .ok (.invokevirtual 62, 3) := by decide +kernel
theorem dX8_ofLots_19 : decode mX8_ofLots.2.2.1 19 = .ok (.iload_n 2, 1) := by decide +kernel
theorem dX8_ofLots_20 : decode mX8_ofLots.2.2.1 20 = .ok (.iload_n 1, 1) := by decide +kernel
theorem dX8_ofLots_21 : decode mX8_ofLots.2.2.1 21 = .ok (.ifCond .eq 11, 3) := by decide +kernel
theorem dX8_ofLots_24 : decode mX8_ofLots.2.2.1 24 = .ok (.aload_n 0, 1) := by decide +kernel
theorem dX8_ofLots_25 : decode mX8_ofLots.2.2.1 25 = .ok (.iload_n 3, 1) := by decide +kernel
theorem dX8_ofLots_26 : decode mX8_ofLots.2.2.1 26 = .ok (.invokevirtual 104, 3) := by decide +kernel
theorem dX8_ofLots_29 : decode mX8_ofLots.2.2.1 29 = .ok (.goto 7, 3) := by decide +kernel
theorem dX8_ofLots_32 : decode mX8_ofLots.2.2.1 32 = .ok (.aload_n 0, 1) := by decide +kernel
theorem dX8_ofLots_33 : decode mX8_ofLots.2.2.1 33 = .ok (.invokevirtual 58, 3) := by decide +kernel
theorem dX8_ofLots_36 : decode mX8_ofLots.2.2.1 36 = .ok (.iadd, 1) := by decide +kernel
theorem dX8_ofLots_37 : decode mX8_ofLots.2.2.1 37 = .ok (.istore_n 2, 1) := by decide +kernel
theorem dX8_ofLots_38 : decode mX8_ofLots.2.2.1 38 = .ok (.iinc 3 1, 3) := by decide +kernel
theorem dX8_ofLots_41 : decode mX8_ofLots.2.2.1 41 = .ok (.goto (-37), 3) := by decide +kernel
theorem dX8_ofLots_44 : decode mX8_ofLots.2.2.1 44 = .ok (.iload_n 2, 1) := by decide +kernel
theorem dX8_ofLots_45 : decode mX8_ofLots.2.2.1 45 = .ok (.ireturn, 1) := by decide +kernel
theorem dX8_count_0 : decode mX8_count.2.2.1 0 = .ok (.iload_n 1, 1) := by decide +kernel
theorem dX8_count_1 : decode mX8_count.2.2.1 1 = .ok (.tableswitch 120 0 11 #[63, 63, 63, 70, 75, 91, 75, 98, 98, 98, 110, 115], 63) := by decide +kernel
theorem dX8_count_64 : decode mX8_count.2.2.1 64 = .ok (.aload_n 0, 1) := by decide +kernel
theorem dX8_count_65 : decode mX8_count.2.2.1 65 = .ok (.getfield 7, 3) := by decide +kernel
theorem dX8_count_68 : decode mX8_count.2.2.1 68 = .ok (.iload_n 1, 1) := by decide +kernel
theorem dX8_count_69 : decode mX8_count.2.2.1 69 = .ok (.iaload, 1) := by decide +kernel
theorem dX8_count_70 : decode mX8_count.2.2.1 70 = .ok (.ireturn, 1) := by decide +kernel
theorem dX8_count_71 : decode mX8_count.2.2.1 71 = .ok (.aload_n 0, 1) := by decide +kernel
theorem dX8_count_72 : decode mX8_count.2.2.1 72 = .ok (.invokevirtual 141, 3) := by decide +kernel
theorem dX8_count_75 : decode mX8_count.2.2.1 75 = .ok (.ireturn, 1) := by decide +kernel
theorem dX8_count_76 : decode mX8_count.2.2.1 76 = .ok (.aload_n 0, 1) := by decide +kernel
theorem dX8_count_77 : decode mX8_count.2.2.1 77 = .ok (.iload_n 1, 1) := by decide +kernel
theorem dX8_count_78 : decode mX8_count.2.2.1 78 = .ok (.bipush 6, 2) := by decide +kernel
theorem dX8_count_80 : decode mX8_count.2.2.1 80 = .ok (.if_icmp .ne 7, 3) := by decide +kernel
theorem dX8_count_83 : decode mX8_count.2.2.1 83 = .ok (.iconst 1, 1) := by decide +kernel
theorem dX8_count_84 : decode mX8_count.2.2.1 84 = .ok (.goto 4, 3) := by decide +kernel
theorem dX8_count_87 : decode mX8_count.2.2.1 87 = .ok (.iconst 0, 1) := by decide +kernel
theorem dX8_count_88 : decode mX8_count.2.2.1 88 = .ok (.invokevirtual 144, 3) := by decide +kernel
theorem dX8_count_91 : decode mX8_count.2.2.1 91 = .ok (.ireturn, 1) := by decide +kernel
theorem dX8_count_92 : decode mX8_count.2.2.1 92 = .ok (.aload_n 0, 1) := by decide +kernel
theorem dX8_count_93 : decode mX8_count.2.2.1 93 = .ok (.getfield 7, 3) := by decide +kernel
theorem dX8_count_96 : decode mX8_count.2.2.1 96 = .ok (.iconst 3, 1) := by decide +kernel
theorem dX8_count_97 : decode mX8_count.2.2.1 97 = .ok (.iaload, 1) := by decide +kernel
theorem dX8_count_98 : decode mX8_count.2.2.1 98 = .ok (.ireturn, 1) := by decide +kernel
theorem dX8_count_99 : decode mX8_count.2.2.1 99 = .ok (.aload_n 0, 1) := by decide +kernel
theorem dX8_count_100 : decode mX8_count.2.2.1 100 = .ok (.getfield 7, 3) := by decide +kernel
theorem dX8_count_103 : decode mX8_count.2.2.1 103 = .ok (.iconst 4, 1) := by decide +kernel
theorem dX8_count_104 : decode mX8_count.2.2.1 104 = .ok (.iload_n 1, 1) := by decide +kernel
theorem dX8_count_105 : decode mX8_count.2.2.1 105 = .ok (.iadd, 1) := by decide +kernel
theorem dX8_count_106 : decode mX8_count.2.2.1 106 = .ok (.bipush 7, 2) := by decide +kernel
theorem dX8_count_108 : decode mX8_count.2.2.1 108 = .ok (.isub, 1) := by decide +kernel
theorem dX8_count_109 : decode mX8_count.2.2.1 109 = .ok (.iaload, 1) := by decide +kernel
theorem dX8_count_110 : decode mX8_count.2.2.1 110 = .ok (.ireturn, 1) := by decide +kernel
theorem dX8_count_111 : decode mX8_count.2.2.1 111 = .ok (.aload_n 0, 1) := by decide +kernel
theorem dX8_count_112 : decode mX8_count.2.2.1 112 = .ok (.getfield 32, 3) := by decide +kernel
theorem dX8_count_115 : decode mX8_count.2.2.1 115 = .ok (.ireturn, 1) := by decide +kernel
theorem dX8_count_116 : decode mX8_count.2.2.1 116 = .ok (.aload_n 0, 1) := by decide +kernel
theorem dX8_count_117 : decode mX8_count.2.2.1 117 = .ok (.getfield 148, 3) := by decide +kernel
theorem dX8_count_120 : decode mX8_count.2.2.1 120 = .ok (.ireturn, 1) := by decide +kernel
theorem dX8_count_121 : decode mX8_count.2.2.1 121 = .ok (.iload_n 1, 1) := by decide +kernel
theorem dX8_count_122 : decode mX8_count.2.2.1 122 = .ok (.bipush 20, 2) := by decide +kernel
theorem dX8_count_124 : decode mX8_count.2.2.1 124 = .ok (.bipush 21, 2) := by decide +kernel
theorem dX8_count_126 : decode mX8_count.2.2.1 126 = .ok (.invokestatic 72, 3) := by decide +kernel
theorem dX8_count_129 : decode mX8_count.2.2.1 129 = .ok (.ifCond .eq 18, 3) := by decide +kernel
theorem dX8_count_132 : decode mX8_count.2.2.1 132 = .ok (.aload_n 0, 1) := by decide +kernel
theorem dX8_count_133 : decode mX8_count.2.2.1 133 = .ok (.getfield 7, 3) := by decide +kernel
theorem dX8_count_136 : decode mX8_count.2.2.1 136 = .ok (.bipush 7, 2) := by decide +kernel
theorem dX8_count_138 : decode mX8_count.2.2.1 138 = .ok (.iload_n 1, 1) := by decide +kernel
theorem dX8_count_139 : decode mX8_count.2.2.1 139 = .ok (.iadd, 1) := by decide +kernel
theorem dX8_count_140 : decode mX8_count.2.2.1 140 = .ok (.bipush 20, 2) := by decide +kernel
theorem dX8_count_142 : decode mX8_count.2.2.1 142 = .ok (.isub, 1) := by decide +kernel
theorem dX8_count_143 : decode mX8_count.2.2.1 143 = .ok (.iaload, 1) := by decide +kernel
theorem dX8_count_144 : decode mX8_count.2.2.1 144 = .ok (.goto 5, 3) := by decide +kernel
theorem dX8_count_147 : decode mX8_count.2.2.1 147 = .ok (.ldc 76, 2) := by decide +kernel
theorem dX8_count_149 : decode mX8_count.2.2.1 149 = .ok (.ireturn, 1) := by decide +kernel
theorem dX8_undo_0 : decode mX8_undo.2.2.1 0 = .ok (.aload_n 0, 1) := by decide +kernel
theorem dX8_undo_1 : decode mX8_undo.2.2.1 1 = .ok (.getfield 32, 3) := by decide +kernel
theorem dX8_undo_4 : decode mX8_undo.2.2.1 4 = .ok (.ifCond .ne 6, 3) := by decide +kernel
theorem dX8_undo_7 : decode mX8_undo.2.2.1 7 = .ok (.ldc 91, 2) := by decide +kernel
theorem dX8_undo_9 : decode mX8_undo.2.2.1 9 = .ok (.ireturn, 1) := by decide +kernel
theorem dX8_undo_10 : decode mX8_undo.2.2.1 10 = .ok (.aload_n 0, 1) := by decide +kernel
theorem dX8_undo_11 : decode mX8_undo.2.2.1 11 = .ok (.dup, 1) := by decide +kernel
theorem dX8_undo_12 : decode mX8_undo.2.2.1 12 = .ok (.getfield 32, 3) := by decide +kernel
theorem dX8_undo_15 : decode mX8_undo.2.2.1 15 = .ok (.iconst 1, 1) := by decide +kernel
theorem dX8_undo_16 : decode mX8_undo.2.2.1 16 = .ok (.isub, 1) := by decide +kernel
theorem dX8_undo_17 : decode mX8_undo.2.2.1 17 = .ok (.putfield 32, 3) := by decide +kernel
theorem dX8_undo_20 : decode mX8_undo.2.2.1 20 = .ok (.iconst 0, 1) := by decide +kernel
theorem dX8_undo_21 : decode mX8_undo.2.2.1 21 = .ok (.istore_n 1, 1) := by decide +kernel
theorem dX8_undo_22 : decode mX8_undo.2.2.1 22 = .ok (.iload_n 1, 1) := by decide +kernel
theorem dX8_undo_23 : decode mX8_undo.2.2.1 23 = .ok (.sipush 316, 3) := by decide +kernel
theorem dX8_undo_26 : decode mX8_undo.2.2.1 26 = .ok (.if_icmp .ge 30, 3) := by decide +kernel
theorem dX8_undo_29 : decode mX8_undo.2.2.1 29 = .ok (.aload_n 0, 1) := by decide +kernel
theorem dX8_undo_30 : decode mX8_undo.2.2.1 30 = .ok (.getfield 7, 3) := by decide +kernel
theorem dX8_undo_33 : decode mX8_undo.2.2.1 33 = .ok (.iload_n 1, 1) := by decide +kernel
theorem dX8_undo_34 : decode mX8_undo.2.2.1 34 = .ok (.aload_n 0, 1) := by decide +kernel
theorem dX8_undo_35 : decode mX8_undo.2.2.1 35 = .ok (.getfield 13, 3) := by decide +kernel
theorem dX8_undo_38 : decode mX8_undo.2.2.1 38 = .ok (.sipush 316, 3) := by decide +kernel
theorem dX8_undo_41 : decode mX8_undo.2.2.1 41 = .ok (.aload_n 0, 1) := by decide +kernel
theorem dX8_undo_42 : decode mX8_undo.2.2.1 42 = .ok (.getfield 32, 3) := by decide +kernel
theorem dX8_undo_45 : decode mX8_undo.2.2.1 45 = .ok (.imul, 1) := by decide +kernel
theorem dX8_undo_46 : decode mX8_undo.2.2.1 46 = .ok (.iload_n 1, 1) := by decide +kernel
theorem dX8_undo_47 : decode mX8_undo.2.2.1 47 = .ok (.iadd, 1) := by decide +kernel
theorem dX8_undo_48 : decode mX8_undo.2.2.1 48 = .ok (.iaload, 1) := by decide +kernel
theorem dX8_undo_49 : decode mX8_undo.2.2.1 49 = .ok (.iastore, 1) := by decide +kernel
theorem dX8_undo_50 : decode mX8_undo.2.2.1 50 = .ok (.iinc 1 1, 3) := by decide +kernel
theorem dX8_undo_53 : decode mX8_undo.2.2.1 53 = .ok (.goto (-31), 3) := by decide +kernel
theorem dX8_undo_56 : decode mX8_undo.2.2.1 56 = .ok (.aload_n 0, 1) := by decide +kernel
theorem dX8_undo_57 : decode mX8_undo.2.2.1 57 = .ok (.getfield 32, 3) := by decide +kernel
theorem dX8_undo_60 : decode mX8_undo.2.2.1 60 = .ok (.ireturn, 1) := by decide +kernel
theorem dX8_type_0 : decode mX8_type.2.2.1 0 = .ok (.iload_n 1, 1) := by decide +kernel
theorem dX8_type_1 : decode mX8_type.2.2.1 1 = .ok (.bipush 32, 2) := by decide +kernel
theorem dX8_type_3 : decode mX8_type.2.2.1 3 = .ok (.bipush 126, 2) := by decide +kernel
theorem dX8_type_5 : decode mX8_type.2.2.1 5 = .ok (.invokestatic 72, 3) := by decide +kernel
theorem dX8_type_8 : decode mX8_type.2.2.1 8 = .ok (.ifCond .ne 6, 3) := by decide +kernel
theorem dX8_type_11 : decode mX8_type.2.2.1 11 = .ok (.ldc 76, 2) := by decide +kernel
theorem dX8_type_13 : decode mX8_type.2.2.1 13 = .ok (.ireturn, 1) := by decide +kernel
theorem dX8_type_14 : decode mX8_type.2.2.1 14 = .ok (.aload_n 0, 1) := by decide +kernel
theorem dX8_type_15 : decode mX8_type.2.2.1 15 = .ok (.getfield 148, 3) := by decide +kernel
theorem dX8_type_18 : decode mX8_type.2.2.1 18 = .ok (.bipush 60, 2) := by decide +kernel
theorem dX8_type_20 : decode mX8_type.2.2.1 20 = .ok (.if_icmp .ne 6, 3) := by decide +kernel
theorem dX8_type_23 : decode mX8_type.2.2.1 23 = .ok (.ldc 77, 2) := by decide +kernel
theorem dX8_type_25 : decode mX8_type.2.2.1 25 = .ok (.ireturn, 1) := by decide +kernel
theorem dX8_type_26 : decode mX8_type.2.2.1 26 = .ok (.aload_n 0, 1) := by decide +kernel
theorem dX8_type_27 : decode mX8_type.2.2.1 27 = .ok (.getfield 19, 3) := by decide +kernel
theorem dX8_type_30 : decode mX8_type.2.2.1 30 = .ok (.aload_n 0, 1) := by decide +kernel
theorem dX8_type_31 : decode mX8_type.2.2.1 31 = .ok (.getfield 148, 3) := by decide +kernel
theorem dX8_type_34 : decode mX8_type.2.2.1 34 = .ok (.iload_n 1, 1) := by decide +kernel
theorem dX8_type_35 : decode mX8_type.2.2.1 35 = .ok (.iastore, 1) := by decide +kernel
theorem dX8_type_36 : decode mX8_type.2.2.1 36 = .ok (.aload_n 0, 1) := by decide +kernel
theorem dX8_type_37 : decode mX8_type.2.2.1 37 = .ok (.dup, 1) := by decide +kernel
theorem dX8_type_38 : decode mX8_type.2.2.1 38 = .ok (.getfield 148, 3) := by decide +kernel
theorem dX8_type_41 : decode mX8_type.2.2.1 41 = .ok (.iconst 1, 1) := by decide +kernel
theorem dX8_type_42 : decode mX8_type.2.2.1 42 = .ok (.iadd, 1) := by decide +kernel
theorem dX8_type_43 : decode mX8_type.2.2.1 43 = .ok (.putfield 148, 3) := by decide +kernel
theorem dX8_type_46 : decode mX8_type.2.2.1 46 = .ok (.aload_n 0, 1) := by decide +kernel
theorem dX8_type_47 : decode mX8_type.2.2.1 47 = .ok (.getfield 148, 3) := by decide +kernel
theorem dX8_type_50 : decode mX8_type.2.2.1 50 = .ok (.ireturn, 1) := by decide +kernel
theorem dX8_clearText_0 : decode mX8_clearText.2.2.1 0 = .ok (.aload_n 0, 1) := by decide +kernel
theorem dX8_clearText_1 : decode mX8_clearText.2.2.1 1 = .ok (.getfield 148, 3) := by decide +kernel
theorem dX8_clearText_4 : decode mX8_clearText.2.2.1 4 = .ok (.istore_n 1, 1) := by decide +kernel
theorem dX8_clearText_5 : decode mX8_clearText.2.2.1 5 = .ok (.aload_n 0, 1) := by decide +kernel
theorem dX8_clearText_6 : decode mX8_clearText.2.2.1 6 = .ok (.iconst 0, 1) := by decide +kernel
theorem dX8_clearText_7 : decode mX8_clearText.2.2.1 7 = .ok (.putfield 148, 3) := by decide +kernel
theorem dX8_clearText_10 : decode mX8_clearText.2.2.1 10 = .ok (.iload_n 1, 1) := by decide +kernel
theorem dX8_clearText_11 : decode mX8_clearText.2.2.1 11 = .ok (.ireturn, 1) := by decide +kernel
theorem dX8_isAt_0 : decode mX8_isAt.2.2.1 0 = .ok (.aload_n 0, 1) := by decide +kernel
theorem dX8_isAt_1 : decode mX8_isAt.2.2.1 1 = .ok (.getfield 151, 3) := by decide +kernel
theorem dX8_isAt_4 : decode mX8_isAt.2.2.1 4 = .ok (.aload_n 0, 1) := by decide +kernel
theorem dX8_isAt_5 : decode mX8_isAt.2.2.1 5 = .ok (.getfield 148, 3) := by decide +kernel
theorem dX8_isAt_8 : decode mX8_isAt.2.2.1 8 = .ok (.if_icmp .ge 24, 3) := by decide +kernel
theorem dX8_isAt_11 : decode mX8_isAt.2.2.1 11 = .ok (.aload_n 0, 1) := by decide +kernel
theorem dX8_isAt_12 : decode mX8_isAt.2.2.1 12 = .ok (.getfield 19, 3) := by decide +kernel
theorem dX8_isAt_15 : decode mX8_isAt.2.2.1 15 = .ok (.aload_n 0, 1) := by decide +kernel
theorem dX8_isAt_16 : decode mX8_isAt.2.2.1 16 = .ok (.getfield 151, 3) := by decide +kernel
theorem dX8_isAt_19 : decode mX8_isAt.2.2.1 19 = .ok (.iaload, 1) := by decide +kernel
theorem dX8_isAt_20 : decode mX8_isAt.2.2.1 20 = .ok (.iload_n 1, 1) := by decide +kernel
theorem dX8_isAt_21 : decode mX8_isAt.2.2.1 21 = .ok (.iload_n 2, 1) := by decide +kernel
theorem dX8_isAt_22 : decode mX8_isAt.2.2.1 22 = .ok (.invokestatic 72, 3) := by decide +kernel
theorem dX8_isAt_25 : decode mX8_isAt.2.2.1 25 = .ok (.ifCond .eq 7, 3) := by decide +kernel
theorem dX8_isAt_28 : decode mX8_isAt.2.2.1 28 = .ok (.iconst 1, 1) := by decide +kernel
theorem dX8_isAt_29 : decode mX8_isAt.2.2.1 29 = .ok (.goto 4, 3) := by decide +kernel
theorem dX8_isAt_32 : decode mX8_isAt.2.2.1 32 = .ok (.iconst 0, 1) := by decide +kernel
theorem dX8_isAt_33 : decode mX8_isAt.2.2.1 33 = .ok (.ireturn, 1) := by decide +kernel
theorem dX8_sign_0 : decode mX8_sign.2.2.1 0 = .ok (.aload_n 0, 1) := by decide +kernel
theorem dX8_sign_1 : decode mX8_sign.2.2.1 1 = .ok (.iload_n 1, 1) := by decide +kernel
theorem dX8_sign_2 : decode mX8_sign.2.2.1 2 = .ok (.iload_n 1, 1) := by decide +kernel
theorem dX8_sign_3 : decode mX8_sign.2.2.1 3 = .ok (.invokevirtual 154, 3) := by decide +kernel
theorem dX8_sign_6 : decode mX8_sign.2.2.1 6 = .ok (.istore_n 2, 1) := by decide +kernel
theorem dX8_sign_7 : decode mX8_sign.2.2.1 7 = .ok (.aload_n 0, 1) := by decide +kernel
theorem dX8_sign_8 : decode mX8_sign.2.2.1 8 = .ok (.dup, 1) := by decide +kernel
theorem dX8_sign_9 : decode mX8_sign.2.2.1 9 = .ok (.getfield 151, 3) := by decide +kernel
theorem dX8_sign_12 : decode mX8_sign.2.2.1 12 = .ok (.iload_n 2, 1) := by decide +kernel
theorem dX8_sign_13 : decode mX8_sign.2.2.1 13 = .ok (.ifCond .eq 7, 3) := by decide +kernel
theorem dX8_sign_16 : decode mX8_sign.2.2.1 16 = .ok (.iconst 1, 1) := by decide +kernel
theorem dX8_sign_17 : decode mX8_sign.2.2.1 17 = .ok (.goto 4, 3) := by decide +kernel
theorem dX8_sign_20 : decode mX8_sign.2.2.1 20 = .ok (.iconst 0, 1) := by decide +kernel
theorem dX8_sign_21 : decode mX8_sign.2.2.1 21 = .ok (.iadd, 1) := by decide +kernel
theorem dX8_sign_22 : decode mX8_sign.2.2.1 22 = .ok (.putfield 151, 3) := by decide +kernel
theorem dX8_sign_25 : decode mX8_sign.2.2.1 25 = .ok (.iload_n 2, 1) := by decide +kernel
theorem dX8_sign_26 : decode mX8_sign.2.2.1 26 = .ok (.ireturn, 1) := by decide +kernel
theorem dX8_number_0 : decode mX8_number.2.2.1 0 = .ok (.aload_n 0, 1) := by decide +kernel
theorem dX8_number_1 : decode mX8_number.2.2.1 1 = .ok (.getfield 151, 3) := by decide +kernel
theorem dX8_number_4 : decode mX8_number.2.2.1 4 = .ok (.istore_n 2, 1) := by decide +kernel
theorem dX8_number_5 : decode mX8_number.2.2.1 5 = .ok (.aload_n 0, 1) := by decide +kernel
theorem dX8_number_6 : decode mX8_number.2.2.1 6 = .ok (.getfield 25, 3) := by decide +kernel
theorem dX8_number_9 : decode mX8_number.2.2.1 9 = .ok (.iload_n 1, 1) := by decide +kernel
theorem dX8_number_10 : decode mX8_number.2.2.1 10 = .ok (.iconst 0, 1) := by decide +kernel
theorem dX8_number_11 : decode mX8_number.2.2.1 11 = .ok (.iastore, 1) := by decide +kernel
theorem dX8_number_12 : decode mX8_number.2.2.1 12 = .ok (.aload_n 0, 1) := by decide +kernel
theorem dX8_number_13 : decode mX8_number.2.2.1 13 = .ok (.bipush 48, 2) := by decide +kernel
theorem dX8_number_15 : decode mX8_number.2.2.1 15 = .ok (.bipush 57, 2) := by decide +kernel
theorem dX8_number_17 : decode mX8_number.2.2.1 17 = .ok (.invokevirtual 154, 3) := by decide +kernel
theorem dX8_number_20 : decode mX8_number.2.2.1 20 = .ok (.ifCond .eq 54, 3) := by decide +kernel
theorem dX8_number_23 : decode mX8_number.2.2.1 23 = .ok (.aload_n 0, 1) := by decide +kernel
theorem dX8_number_24 : decode mX8_number.2.2.1 24 = .ok (.getfield 151, 3) := by decide +kernel
theorem dX8_number_27 : decode mX8_number.2.2.1 27 = .ok (.iload_n 2, 1) := by decide +kernel
theorem dX8_number_28 : decode mX8_number.2.2.1 28 = .ok (.isub, 1) := by decide +kernel
theorem dX8_number_29 : decode mX8_number.2.2.1 29 = .ok (.iconst 3, 1) := by decide +kernel
theorem dX8_number_30 : decode mX8_number.2.2.1 30 = .ok (.if_icmp .ge 44, 3) := by decide +kernel
theorem dX8_number_33 : decode mX8_number.2.2.1 33 = .ok (.aload_n 0, 1) := by decide +kernel
theorem dX8_number_34 : decode mX8_number.2.2.1 34 = .ok (.getfield 25, 3) := by decide +kernel
theorem dX8_number_37 : decode mX8_number.2.2.1 37 = .ok (.iload_n 1, 1) := by decide +kernel
theorem dX8_number_38 : decode mX8_number.2.2.1 38 = .ok (.bipush 10, 2) := by decide +kernel
theorem dX8_number_40 : decode mX8_number.2.2.1 40 = .ok (.aload_n 0, 1) := by decide +kernel
theorem dX8_number_41 : decode mX8_number.2.2.1 41 = .ok (.getfield 25, 3) := by decide +kernel
theorem dX8_number_44 : decode mX8_number.2.2.1 44 = .ok (.iload_n 1, 1) := by decide +kernel
theorem dX8_number_45 : decode mX8_number.2.2.1 45 = .ok (.iaload, 1) := by decide +kernel
theorem dX8_number_46 : decode mX8_number.2.2.1 46 = .ok (.imul, 1) := by decide +kernel
theorem dX8_number_47 : decode mX8_number.2.2.1 47 = .ok (.aload_n 0, 1) := by decide +kernel
theorem dX8_number_48 : decode mX8_number.2.2.1 48 = .ok (.getfield 19, 3) := by decide +kernel
theorem dX8_number_51 : decode mX8_number.2.2.1 51 = .ok (.aload_n 0, 1) := by decide +kernel
theorem dX8_number_52 : decode mX8_number.2.2.1 52 = .ok (.getfield 151, 3) := by decide +kernel
theorem dX8_number_55 : decode mX8_number.2.2.1 55 = .ok (.iaload, 1) := by decide +kernel
theorem dX8_number_56 : decode mX8_number.2.2.1 56 = .ok (.iadd, 1) := by decide +kernel
theorem dX8_number_57 : decode mX8_number.2.2.1 57 = .ok (.bipush 48, 2) := by decide +kernel
theorem dX8_number_59 : decode mX8_number.2.2.1 59 = .ok (.isub, 1) := by decide +kernel
theorem dX8_number_60 : decode mX8_number.2.2.1 60 = .ok (.iastore, 1) := by decide +kernel
theorem dX8_number_61 : decode mX8_number.2.2.1 61 = .ok (.aload_n 0, 1) := by decide +kernel
theorem dX8_number_62 : decode mX8_number.2.2.1 62 = .ok (.dup, 1) := by decide +kernel
theorem dX8_number_63 : decode mX8_number.2.2.1 63 = .ok (.getfield 151, 3) := by decide +kernel
theorem dX8_number_66 : decode mX8_number.2.2.1 66 = .ok (.iconst 1, 1) := by decide +kernel
theorem dX8_number_67 : decode mX8_number.2.2.1 67 = .ok (.iadd, 1) := by decide +kernel
theorem dX8_number_68 : decode mX8_number.2.2.1 68 = .ok (.putfield 151, 3) := by decide +kernel
theorem dX8_number_71 : decode mX8_number.2.2.1 71 = .ok (.goto (-59), 3) := by decide +kernel
theorem dX8_number_74 : decode mX8_number.2.2.1 74 = .ok (.aload_n 0, 1) := by decide +kernel
theorem dX8_number_75 : decode mX8_number.2.2.1 75 = .ok (.getfield 151, 3) := by decide +kernel
theorem dX8_number_78 : decode mX8_number.2.2.1 78 = .ok (.iload_n 2, 1) := by decide +kernel
theorem dX8_number_79 : decode mX8_number.2.2.1 79 = .ok (.if_icmp .le 7, 3) := by decide +kernel
theorem dX8_number_82 : decode mX8_number.2.2.1 82 = .ok (.iconst 1, 1) := by decide +kernel
theorem dX8_number_83 : decode mX8_number.2.2.1 83 = .ok (.goto 4, 3) := by decide +kernel
theorem dX8_number_86 : decode mX8_number.2.2.1 86 = .ok (.iconst 0, 1) := by decide +kernel
theorem dX8_number_87 : decode mX8_number.2.2.1 87 = .ok (.ireturn, 1) := by decide +kernel
theorem dX8_numbersOf_0 : decode mX8_numbersOf.2.2.1 0 = .ok (.iload_n 0, 1) := by decide +kernel
theorem dX8_numbersOf_1 : decode mX8_numbersOf.2.2.1 1 = .ok (.bipush 115, 2) := by decide +kernel
theorem dX8_numbersOf_3 : decode mX8_numbersOf.2.2.1 3 = .ok (.if_icmp .ne 7, 3) := by decide +kernel
theorem dX8_numbersOf_6 : decode mX8_numbersOf.2.2.1 6 = .ok (.iconst 4, 1) := by decide +kernel
theorem dX8_numbersOf_7 : decode mX8_numbersOf.2.2.1 7 = .ok (.goto 36, 3) := by decide +kernel
theorem dX8_numbersOf_10 : decode mX8_numbersOf.2.2.1 10 = .ok (.iload_n 0, 1) := by decide +kernel
theorem dX8_numbersOf_11 : decode mX8_numbersOf.2.2.1 11 = .ok (.bipush 108, 2) := by decide +kernel
theorem dX8_numbersOf_13 : decode mX8_numbersOf.2.2.1 13 = .ok (.if_icmp .eq 9, 3) := by decide +kernel
theorem dX8_numbersOf_16 : decode mX8_numbersOf.2.2.1 16 = .ok (.iload_n 0, 1) := by decide +kernel
theorem dX8_numbersOf_17 : decode mX8_numbersOf.2.2.1 17 = .ok (.bipush 116, 2) := by decide +kernel
theorem dX8_numbersOf_19 : decode mX8_numbersOf.2.2.1 19 = .ok (.if_icmp .ne 7, 3) := by decide +kernel
theorem dX8_numbersOf_22 : decode mX8_numbersOf.2.2.1 22 = .ok (.iconst 2, 1) := by decide +kernel
theorem dX8_numbersOf_23 : decode mX8_numbersOf.2.2.1 23 = .ok (.goto 20, 3) := by decide +kernel
theorem dX8_numbersOf_26 : decode mX8_numbersOf.2.2.1 26 = .ok (.iload_n 0, 1) := by decide +kernel
theorem dX8_numbersOf_27 : decode mX8_numbersOf.2.2.1 27 = .ok (.bipush 109, 2) := by decide +kernel
theorem dX8_numbersOf_29 : decode mX8_numbersOf.2.2.1 29 = .ok (.if_icmp .eq 9, 3) := by decide +kernel
theorem dX8_numbersOf_32 : decode mX8_numbersOf.2.2.1 32 = .ok (.iload_n 0, 1) := by decide +kernel
theorem dX8_numbersOf_33 : decode mX8_numbersOf.2.2.1 33 = .ok (.bipush 98, 2) := by decide +kernel
theorem dX8_numbersOf_35 : decode mX8_numbersOf.2.2.1 35 = .ok (.if_icmp .ne 7, 3) := by decide +kernel
theorem dX8_numbersOf_38 : decode mX8_numbersOf.2.2.1 38 = .ok (.iconst 1, 1) := by decide +kernel
theorem dX8_numbersOf_39 : decode mX8_numbersOf.2.2.1 39 = .ok (.goto 4, 3) := by decide +kernel
theorem dX8_numbersOf_42 : decode mX8_numbersOf.2.2.1 42 = .ok (.iconst 0, 1) := by decide +kernel
theorem dX8_numbersOf_43 : decode mX8_numbersOf.2.2.1 43 = .ok (.ireturn, 1) := by decide +kernel
theorem dX8_reads_0 : decode mX8_reads.2.2.1 0 = .ok (.aload_n 0, 1) := by decide +kernel
theorem dX8_reads_1 : decode mX8_reads.2.2.1 1 = .ok (.aload_n 0, 1) := by decide +kernel
theorem dX8_reads_2 : decode mX8_reads.2.2.1 2 = .ok (.bipush 33, 2) := by decide +kernel
theorem dX8_reads_4 : decode mX8_reads.2.2.1 4 = .ok (.bipush 126, 2) := by decide +kernel
theorem dX8_reads_6 : decode mX8_reads.2.2.1 6 = .ok (.invokevirtual 154, 3) := by decide +kernel
theorem dX8_reads_9 : decode mX8_reads.2.2.1 9 = .ok (.ifCond .eq 15, 3) := by decide +kernel
theorem dX8_reads_12 : decode mX8_reads.2.2.1 12 = .ok (.aload_n 0, 1) := by decide +kernel
theorem dX8_reads_13 : decode mX8_reads.2.2.1 13 = .ok (.getfield 19, 3) := by decide +kernel
theorem dX8_reads_16 : decode mX8_reads.2.2.1 16 = .ok (.aload_n 0, 1) := by decide +kernel
theorem dX8_reads_17 : decode mX8_reads.2.2.1 17 = .ok (.getfield 151, 3) := by decide +kernel
theorem dX8_reads_20 : decode mX8_reads.2.2.1 20 = .ok (.iaload, 1) := by decide +kernel
theorem dX8_reads_21 : decode mX8_reads.2.2.1 21 = .ok (.goto 4, 3) := by decide +kernel
theorem dX8_reads_24 : decode mX8_reads.2.2.1 24 = .ok (.iconst 0, 1) := by decide +kernel
theorem dX8_reads_25 : decode mX8_reads.2.2.1 25 = .ok (.putfield 157, 3) := by decide +kernel
theorem dX8_reads_28 : decode mX8_reads.2.2.1 28 = .ok (.aload_n 0, 1) := by decide +kernel
theorem dX8_reads_29 : decode mX8_reads.2.2.1 29 = .ok (.getfield 157, 3) := by decide +kernel
theorem dX8_reads_32 : decode mX8_reads.2.2.1 32 = .ok (.invokestatic 160, 3) := by decide +kernel
theorem dX8_reads_35 : decode mX8_reads.2.2.1 35 = .ok (.istore_n 1, 1) := by decide +kernel
theorem dX8_reads_36 : decode mX8_reads.2.2.1 36 = .ok (.iload_n 1, 1) := by decide +kernel
theorem dX8_reads_37 : decode mX8_reads.2.2.1 37 = .ok (.ifCond .ne 5, 3) := by decide +kernel
theorem dX8_reads_40 : decode mX8_reads.2.2.1 40 = .ok (.iconst 0, 1) := by decide +kernel
theorem dX8_reads_41 : decode mX8_reads.2.2.1 41 = .ok (.ireturn, 1) := by decide +kernel
theorem dX8_reads_42 : decode mX8_reads.2.2.1 42 = .ok (.aload_n 0, 1) := by decide +kernel
theorem dX8_reads_43 : decode mX8_reads.2.2.1 43 = .ok (.dup, 1) := by decide +kernel
theorem dX8_reads_44 : decode mX8_reads.2.2.1 44 = .ok (.getfield 151, 3) := by decide +kernel
theorem dX8_reads_47 : decode mX8_reads.2.2.1 47 = .ok (.iconst 1, 1) := by decide +kernel
theorem dX8_reads_48 : decode mX8_reads.2.2.1 48 = .ok (.iadd, 1) := by decide +kernel
theorem dX8_reads_49 : decode mX8_reads.2.2.1 49 = .ok (.putfield 151, 3) := by decide +kernel
theorem dX8_reads_52 : decode mX8_reads.2.2.1 52 = .ok (.aload_n 0, 1) := by decide +kernel
theorem dX8_reads_53 : decode mX8_reads.2.2.1 53 = .ok (.iconst 0, 1) := by decide +kernel
theorem dX8_reads_54 : decode mX8_reads.2.2.1 54 = .ok (.invokevirtual 163, 3) := by decide +kernel
theorem dX8_reads_57 : decode mX8_reads.2.2.1 57 = .ok (.istore_n 2, 1) := by decide +kernel
theorem dX8_reads_58 : decode mX8_reads.2.2.1 58 = .ok (.iconst 1, 1) := by decide +kernel
theorem dX8_reads_59 : decode mX8_reads.2.2.1 59 = .ok (.istore_n 3, 1) := by decide +kernel
theorem dX8_reads_60 : decode mX8_reads.2.2.1 60 = .ok (.iload_n 3, 1) := by decide +kernel
theorem dX8_reads_61 : decode mX8_reads.2.2.1 61 = .ok (.iload_n 1, 1) := by decide +kernel
theorem dX8_reads_62 : decode mX8_reads.2.2.1 62 = .ok (.if_icmp .ge 36, 3) := by decide +kernel
theorem dX8_reads_65 : decode mX8_reads.2.2.1 65 = .ok (.iload_n 2, 1) := by decide +kernel
theorem dX8_reads_66 : decode mX8_reads.2.2.1 66 = .ok (.ifCond .eq 32, 3) := by decide +kernel
theorem dX8_reads_69 : decode mX8_reads.2.2.1 69 = .ok (.aload_n 0, 1) := by decide +kernel
theorem dX8_reads_70 : decode mX8_reads.2.2.1 70 = .ok (.bipush 44, 2) := by decide +kernel
theorem dX8_reads_72 : decode mX8_reads.2.2.1 72 = .ok (.invokevirtual 166, 3) := by decide +kernel
theorem dX8_reads_75 : decode mX8_reads.2.2.1 75 = .ok (.ifCond .eq 15, 3) := by decide +kernel
theorem dX8_reads_78 : decode mX8_reads.2.2.1 78 = .ok (.aload_n 0, 1) := by decide +kernel
theorem dX8_reads_79 : decode mX8_reads.2.2.1 79 = .ok (.iload_n 3, 1) := by decide +kernel
theorem dX8_reads_80 : decode mX8_reads.2.2.1 80 = .ok (.invokevirtual 163, 3) := by decide +kernel
theorem dX8_reads_83 : decode mX8_reads.2.2.1 83 = .ok (.ifCond .eq 7, 3) := by decide +kernel
theorem dX8_reads_86 : decode mX8_reads.2.2.1 86 = .ok (.iconst 1, 1) := by decide +kernel
theorem dX8_reads_87 : decode mX8_reads.2.2.1 87 = .ok (.goto 4, 3) := by decide +kernel
theorem dX8_reads_90 : decode mX8_reads.2.2.1 90 = .ok (.iconst 0, 1) := by decide +kernel
theorem dX8_reads_91 : decode mX8_reads.2.2.1 91 = .ok (.istore_n 2, 1) := by decide +kernel
theorem dX8_reads_92 : decode mX8_reads.2.2.1 92 = .ok (.iinc 3 1, 3) := by decide +kernel
theorem dX8_reads_95 : decode mX8_reads.2.2.1 95 = .ok (.goto (-35), 3) := by decide +kernel
theorem dX8_reads_98 : decode mX8_reads.2.2.1 98 = .ok (.iload_n 2, 1) := by decide +kernel
theorem dX8_reads_99 : decode mX8_reads.2.2.1 99 = .ok (.ifCond .eq 16, 3) := by decide +kernel
theorem dX8_reads_102 : decode mX8_reads.2.2.1 102 = .ok (.aload_n 0, 1) := by decide +kernel
theorem dX8_reads_103 : decode mX8_reads.2.2.1 103 = .ok (.bipush 59, 2) := by decide +kernel
theorem dX8_reads_105 : decode mX8_reads.2.2.1 105 = .ok (.invokevirtual 166, 3) := by decide +kernel
theorem dX8_reads_108 : decode mX8_reads.2.2.1 108 = .ok (.ifCond .eq 7, 3) := by decide +kernel
theorem dX8_reads_111 : decode mX8_reads.2.2.1 111 = .ok (.iconst 1, 1) := by decide +kernel
theorem dX8_reads_112 : decode mX8_reads.2.2.1 112 = .ok (.goto 4, 3) := by decide +kernel
theorem dX8_reads_115 : decode mX8_reads.2.2.1 115 = .ok (.iconst 0, 1) := by decide +kernel
theorem dX8_reads_116 : decode mX8_reads.2.2.1 116 = .ok (.ireturn, 1) := by decide +kernel
theorem dX8_calls_0 : decode mX8_calls.2.2.1 0 = .ok (.aload_n 0, 1) := by decide +kernel
theorem dX8_calls_1 : decode mX8_calls.2.2.1 1 = .ok (.getfield 157, 3) := by decide +kernel
theorem dX8_calls_4 : decode mX8_calls.2.2.1 4 = .ok (.tableswitch 126 108 116 #[52, 115, 126, 126, 126, 126, 126, 69, 98], 52) := by decide +kernel
theorem dX8_calls_56 : decode mX8_calls.2.2.1 56 = .ok (.aload_n 0, 1) := by decide +kernel
theorem dX8_calls_57 : decode mX8_calls.2.2.1 57 = .ok (.aload_n 0, 1) := by decide +kernel
theorem dX8_calls_58 : decode mX8_calls.2.2.1 58 = .ok (.getfield 25, 3) := by decide +kernel
theorem dX8_calls_61 : decode mX8_calls.2.2.1 61 = .ok (.iconst 0, 1) := by decide +kernel
theorem dX8_calls_62 : decode mX8_calls.2.2.1 62 = .ok (.iaload, 1) := by decide +kernel
theorem dX8_calls_63 : decode mX8_calls.2.2.1 63 = .ok (.aload_n 0, 1) := by decide +kernel
theorem dX8_calls_64 : decode mX8_calls.2.2.1 64 = .ok (.getfield 25, 3) := by decide +kernel
theorem dX8_calls_67 : decode mX8_calls.2.2.1 67 = .ok (.iconst 1, 1) := by decide +kernel
theorem dX8_calls_68 : decode mX8_calls.2.2.1 68 = .ok (.iaload, 1) := by decide +kernel
theorem dX8_calls_69 : decode mX8_calls.2.2.1 69 = .ok (.invokevirtual 169, 3) := by decide +kernel
theorem dX8_calls_72 : decode mX8_calls.2.2.1 72 = .ok (.ireturn, 1) := by decide +kernel
theorem dX8_calls_73 : decode mX8_calls.2.2.1 73 = .ok (.aload_n 0, 1) := by decide +kernel
theorem dX8_calls_74 : decode mX8_calls.2.2.1 74 = .ok (.aload_n 0, 1) := by decide +kernel
theorem dX8_calls_75 : decode mX8_calls.2.2.1 75 = .ok (.getfield 25, 3) := by decide +kernel
theorem dX8_calls_78 : decode mX8_calls.2.2.1 78 = .ok (.iconst 0, 1) := by decide +kernel
theorem dX8_calls_79 : decode mX8_calls.2.2.1 79 = .ok (.iaload, 1) := by decide +kernel
theorem dX8_calls_80 : decode mX8_calls.2.2.1 80 = .ok (.aload_n 0, 1) := by decide +kernel
theorem dX8_calls_81 : decode mX8_calls.2.2.1 81 = .ok (.getfield 25, 3) := by decide +kernel
theorem dX8_calls_84 : decode mX8_calls.2.2.1 84 = .ok (.iconst 1, 1) := by decide +kernel
theorem dX8_calls_85 : decode mX8_calls.2.2.1 85 = .ok (.iaload, 1) := by decide +kernel
theorem dX8_calls_86 : decode mX8_calls.2.2.1 86 = .ok (.aload_n 0, 1) := by decide +kernel
theorem dX8_calls_87 : decode mX8_calls.2.2.1 87 = .ok (.getfield 25, 3) := by decide +kernel
theorem dX8_calls_90 : decode mX8_calls.2.2.1 90 = .ok (.iconst 2, 1) := by decide +kernel
theorem dX8_calls_91 : decode mX8_calls.2.2.1 91 = .ok (.iaload, 1) := by decide +kernel
theorem dX8_calls_92 : decode mX8_calls.2.2.1 92 = .ok (.aload_n 0, 1) := by decide +kernel
theorem dX8_calls_93 : decode mX8_calls.2.2.1 93 = .ok (.getfield 25, 3) := by decide +kernel
theorem dX8_calls_96 : decode mX8_calls.2.2.1 96 = .ok (.iconst 3, 1) := by decide +kernel
theorem dX8_calls_97 : decode mX8_calls.2.2.1 97 = .ok (.iaload, 1) := by decide +kernel
theorem dX8_calls_98 : decode mX8_calls.2.2.1 98 = .ok (.invokevirtual 172, 3) := by decide +kernel
theorem dX8_calls_101 : decode mX8_calls.2.2.1 101 = .ok (.ireturn, 1) := by decide +kernel
theorem dX8_calls_102 : decode mX8_calls.2.2.1 102 = .ok (.aload_n 0, 1) := by decide +kernel
theorem dX8_calls_103 : decode mX8_calls.2.2.1 103 = .ok (.aload_n 0, 1) := by decide +kernel
theorem dX8_calls_104 : decode mX8_calls.2.2.1 104 = .ok (.getfield 25, 3) := by decide +kernel
theorem dX8_calls_107 : decode mX8_calls.2.2.1 107 = .ok (.iconst 0, 1) := by decide +kernel
theorem dX8_calls_108 : decode mX8_calls.2.2.1 108 = .ok (.iaload, 1) := by decide +kernel
theorem dX8_calls_109 : decode mX8_calls.2.2.1 109 = .ok (.aload_n 0, 1) := by decide +kernel
theorem dX8_calls_110 : decode mX8_calls.2.2.1 110 = .ok (.getfield 25, 3) := by decide +kernel
theorem dX8_calls_113 : decode mX8_calls.2.2.1 113 = .ok (.iconst 1, 1) := by decide +kernel
theorem dX8_calls_114 : decode mX8_calls.2.2.1 114 = .ok (.iaload, 1) := by decide +kernel
theorem dX8_calls_115 : decode mX8_calls.2.2.1 115 = .ok (.invokevirtual 175, 3) := by decide +kernel
theorem dX8_calls_118 : decode mX8_calls.2.2.1 118 = .ok (.ireturn, 1) := by decide +kernel
theorem dX8_calls_119 : decode mX8_calls.2.2.1 119 = .ok (.aload_n 0, 1) := by decide +kernel
theorem dX8_calls_120 : decode mX8_calls.2.2.1 120 = .ok (.aload_n 0, 1) := by decide +kernel
theorem dX8_calls_121 : decode mX8_calls.2.2.1 121 = .ok (.getfield 25, 3) := by decide +kernel
theorem dX8_calls_124 : decode mX8_calls.2.2.1 124 = .ok (.iconst 0, 1) := by decide +kernel
theorem dX8_calls_125 : decode mX8_calls.2.2.1 125 = .ok (.iaload, 1) := by decide +kernel
theorem dX8_calls_126 : decode mX8_calls.2.2.1 126 = .ok (.invokevirtual 178, 3) := by decide +kernel
theorem dX8_calls_129 : decode mX8_calls.2.2.1 129 = .ok (.ireturn, 1) := by decide +kernel
theorem dX8_calls_130 : decode mX8_calls.2.2.1 130 = .ok (.aload_n 0, 1) := by decide +kernel
theorem dX8_calls_131 : decode mX8_calls.2.2.1 131 = .ok (.aload_n 0, 1) := by decide +kernel
theorem dX8_calls_132 : decode mX8_calls.2.2.1 132 = .ok (.getfield 25, 3) := by decide +kernel
theorem dX8_calls_135 : decode mX8_calls.2.2.1 135 = .ok (.iconst 0, 1) := by decide +kernel
theorem dX8_calls_136 : decode mX8_calls.2.2.1 136 = .ok (.iaload, 1) := by decide +kernel
theorem dX8_calls_137 : decode mX8_calls.2.2.1 137 = .ok (.invokevirtual 181, 3) := by decide +kernel
theorem dX8_calls_140 : decode mX8_calls.2.2.1 140 = .ok (.ireturn, 1) := by decide +kernel
theorem dX8_plays_0 : decode mX8_plays.2.2.1 0 = .ok (.aload_n 0, 1) := by decide +kernel
theorem dX8_plays_1 : decode mX8_plays.2.2.1 1 = .ok (.iconst 1, 1) := by decide +kernel
theorem dX8_plays_2 : decode mX8_plays.2.2.1 2 = .ok (.putfield 28, 3) := by decide +kernel
theorem dX8_plays_5 : decode mX8_plays.2.2.1 5 = .ok (.aload_n 0, 1) := by decide +kernel
theorem dX8_plays_6 : decode mX8_plays.2.2.1 6 = .ok (.iconst 0, 1) := by decide +kernel
theorem dX8_plays_7 : decode mX8_plays.2.2.1 7 = .ok (.putfield 151, 3) := by decide +kernel
theorem dX8_plays_10 : decode mX8_plays.2.2.1 10 = .ok (.aload_n 0, 1) := by decide +kernel
theorem dX8_plays_11 : decode mX8_plays.2.2.1 11 = .ok (.iconst 0, 1) := by decide +kernel
theorem dX8_plays_12 : decode mX8_plays.2.2.1 12 = .ok (.putfield 184, 3) := by decide +kernel
theorem dX8_plays_15 : decode mX8_plays.2.2.1 15 = .ok (.aload_n 0, 1) := by decide +kernel
theorem dX8_plays_16 : decode mX8_plays.2.2.1 16 = .ok (.iconst 0, 1) := by decide +kernel
theorem dX8_plays_17 : decode mX8_plays.2.2.1 17 = .ok (.putfield 187, 3) := by decide +kernel
theorem dX8_plays_20 : decode mX8_plays.2.2.1 20 = .ok (.iconst 1, 1) := by decide +kernel
theorem dX8_plays_21 : decode mX8_plays.2.2.1 21 = .ok (.istore_n 1, 1) := by decide +kernel
theorem dX8_plays_22 : decode mX8_plays.2.2.1 22 = .ok (.aload_n 0, 1) := by decide +kernel
theorem dX8_plays_23 : decode mX8_plays.2.2.1 23 = .ok (.getfield 151, 3) := by decide +kernel
theorem dX8_plays_26 : decode mX8_plays.2.2.1 26 = .ok (.aload_n 0, 1) := by decide +kernel
theorem dX8_plays_27 : decode mX8_plays.2.2.1 27 = .ok (.getfield 148, 3) := by decide +kernel
theorem dX8_plays_30 : decode mX8_plays.2.2.1 30 = .ok (.if_icmp .ge 94, 3) := by decide +kernel
theorem dX8_plays_33 : decode mX8_plays.2.2.1 33 = .ok (.iload_n 1, 1) := by decide +kernel
theorem dX8_plays_34 : decode mX8_plays.2.2.1 34 = .ok (.ifCond .eq 90, 3) := by decide +kernel
theorem dX8_plays_37 : decode mX8_plays.2.2.1 37 = .ok (.aload_n 0, 1) := by decide +kernel
theorem dX8_plays_38 : decode mX8_plays.2.2.1 38 = .ok (.aload_n 0, 1) := by decide +kernel
theorem dX8_plays_39 : decode mX8_plays.2.2.1 39 = .ok (.getfield 151, 3) := by decide +kernel
theorem dX8_plays_42 : decode mX8_plays.2.2.1 42 = .ok (.putfield 184, 3) := by decide +kernel
theorem dX8_plays_45 : decode mX8_plays.2.2.1 45 = .ok (.aload_n 0, 1) := by decide +kernel
theorem dX8_plays_46 : decode mX8_plays.2.2.1 46 = .ok (.invokevirtual 190, 3) := by decide +kernel
theorem dX8_plays_49 : decode mX8_plays.2.2.1 49 = .ok (.istore_n 2, 1) := by decide +kernel
theorem dX8_plays_50 : decode mX8_plays.2.2.1 50 = .ok (.iload_n 2, 1) := by decide +kernel
theorem dX8_plays_51 : decode mX8_plays.2.2.1 51 = .ok (.ifCond .eq 10, 3) := by decide +kernel
theorem dX8_plays_54 : decode mX8_plays.2.2.1 54 = .ok (.aload_n 0, 1) := by decide +kernel
theorem dX8_plays_55 : decode mX8_plays.2.2.1 55 = .ok (.invokevirtual 194, 3) := by decide +kernel
theorem dX8_plays_58 : decode mX8_plays.2.2.1 58 = .ok (.goto 4, 3) := by decide +kernel
theorem dX8_plays_61 : decode mX8_plays.2.2.1 61 = .ok (.iconst 0, 1) := by decide +kernel
theorem dX8_plays_62 : decode mX8_plays.2.2.1 62 = .ok (.istore_n 3, 1) := by decide +kernel
theorem dX8_plays_63 : decode mX8_plays.2.2.1 63 = .ok (.iload_n 2, 1) := by decide +kernel
theorem dX8_plays_64 : decode mX8_plays.2.2.1 64 = .ok (.ifCond .eq 11, 3) := by decide +kernel
theorem dX8_plays_67 : decode mX8_plays.2.2.1 67 = .ok (.iload_n 3, 1) := by decide +kernel
theorem dX8_plays_68 : decode mX8_plays.2.2.1 68 = .ok (.ifCond .lt 7, 3) := by decide +kernel
theorem dX8_plays_71 : decode mX8_plays.2.2.1 71 = .ok (.iconst 1, 1) := by decide +kernel
theorem dX8_plays_72 : decode mX8_plays.2.2.1 72 = .ok (.goto 4, 3) := by decide +kernel
theorem dX8_plays_75 : decode mX8_plays.2.2.1 75 = .ok (.iconst 0, 1) := by decide +kernel
theorem dX8_plays_76 : decode mX8_plays.2.2.1 76 = .ok (.istore_n 1, 1) := by decide +kernel
theorem dX8_plays_77 : decode mX8_plays.2.2.1 77 = .ok (.aload_n 0, 1) := by decide +kernel
theorem dX8_plays_78 : decode mX8_plays.2.2.1 78 = .ok (.iload_n 2, 1) := by decide +kernel
theorem dX8_plays_79 : decode mX8_plays.2.2.1 79 = .ok (.ifCond .eq 7, 3) := by decide +kernel
theorem dX8_plays_82 : decode mX8_plays.2.2.1 82 = .ok (.iconst 2, 1) := by decide +kernel
theorem dX8_plays_83 : decode mX8_plays.2.2.1 83 = .ok (.goto 4, 3) := by decide +kernel
theorem dX8_plays_86 : decode mX8_plays.2.2.1 86 = .ok (.iconst 1, 1) := by decide +kernel
theorem dX8_plays_87 : decode mX8_plays.2.2.1 87 = .ok (.putfield 197, 3) := by decide +kernel
theorem dX8_plays_90 : decode mX8_plays.2.2.1 90 = .ok (.aload_n 0, 1) := by decide +kernel
theorem dX8_plays_91 : decode mX8_plays.2.2.1 91 = .ok (.iload_n 2, 1) := by decide +kernel
theorem dX8_plays_92 : decode mX8_plays.2.2.1 92 = .ok (.ifCond .eq 7, 3) := by decide +kernel
theorem dX8_plays_95 : decode mX8_plays.2.2.1 95 = .ok (.iload_n 3, 1) := by decide +kernel
theorem dX8_plays_96 : decode mX8_plays.2.2.1 96 = .ok (.goto 12, 3) := by decide +kernel
theorem dX8_plays_99 : decode mX8_plays.2.2.1 99 = .ok (.aload_n 0, 1) := by decide +kernel
theorem dX8_plays_100 : decode mX8_plays.2.2.1 100 = .ok (.getfield 151, 3) := by decide +kernel
theorem dX8_plays_103 : decode mX8_plays.2.2.1 103 = .ok (.aload_n 0, 1) := by decide +kernel
theorem dX8_plays_104 : decode mX8_plays.2.2.1 104 = .ok (.getfield 184, 3) := by decide +kernel
theorem dX8_plays_107 : decode mX8_plays.2.2.1 107 = .ok (.isub, 1) := by decide +kernel
theorem dX8_plays_108 : decode mX8_plays.2.2.1 108 = .ok (.putfield 200, 3) := by decide +kernel
theorem dX8_plays_111 : decode mX8_plays.2.2.1 111 = .ok (.aload_n 0, 1) := by decide +kernel
theorem dX8_plays_112 : decode mX8_plays.2.2.1 112 = .ok (.dup, 1) := by decide +kernel
theorem dX8_plays_113 : decode mX8_plays.2.2.1 113 = .ok (.getfield 187, 3) := by decide +kernel
theorem dX8_plays_116 : decode mX8_plays.2.2.1 116 = .ok (.iconst 1, 1) := by decide +kernel
theorem dX8_plays_117 : decode mX8_plays.2.2.1 117 = .ok (.iadd, 1) := by decide +kernel
theorem dX8_plays_118 : decode mX8_plays.2.2.1 118 = .ok (.putfield 187, 3) := by decide +kernel
theorem dX8_plays_121 : decode mX8_plays.2.2.1 121 = .ok (.goto (-99), 3) := by decide +kernel
theorem dX8_plays_124 : decode mX8_plays.2.2.1 124 = .ok (.aload_n 0, 1) := by decide +kernel
theorem dX8_plays_125 : decode mX8_plays.2.2.1 125 = .ok (.iconst 0, 1) := by decide +kernel
theorem dX8_plays_126 : decode mX8_plays.2.2.1 126 = .ok (.putfield 28, 3) := by decide +kernel
theorem dX8_plays_129 : decode mX8_plays.2.2.1 129 = .ok (.iload_n 1, 1) := by decide +kernel
theorem dX8_plays_130 : decode mX8_plays.2.2.1 130 = .ok (.ireturn, 1) := by decide +kernel
theorem dX8_fault_0 : decode mX8_fault.2.2.1 0 = .ok (.iload_n 1, 1) := by decide +kernel
theorem dX8_fault_1 : decode mX8_fault.2.2.1 1 = .ok (.iconst 0, 1) := by decide +kernel
theorem dX8_fault_2 : decode mX8_fault.2.2.1 2 = .ok (.iconst 2, 1) := by decide +kernel
theorem dX8_fault_3 : decode mX8_fault.2.2.1 3 = .ok (.invokestatic 72, 3) := by decide +kernel
theorem dX8_fault_6 : decode mX8_fault.2.2.1 6 = .ok (.ifCond .ne 6, 3) := by decide +kernel
theorem dX8_fault_9 : decode mX8_fault.2.2.1 9 = .ok (.ldc 76, 2) := by decide +kernel
theorem dX8_fault_11 : decode mX8_fault.2.2.1 11 = .ok (.ireturn, 1) := by decide +kernel
theorem dX8_fault_12 : decode mX8_fault.2.2.1 12 = .ok (.aload_n 0, 1) := by decide +kernel
theorem dX8_fault_13 : decode mX8_fault.2.2.1 13 = .ok (.getfield 7, 3) := by decide +kernel
theorem dX8_fault_16 : decode mX8_fault.2.2.1 16 = .ok (.aload_n 0, 1) := by decide +kernel
theorem dX8_fault_17 : decode mX8_fault.2.2.1 17 = .ok (.getfield 16, 3) := by decide +kernel
theorem dX8_fault_20 : decode mX8_fault.2.2.1 20 = .ok (.invokestatic 203, 3) := by decide +kernel
theorem dX8_fault_23 : decode mX8_fault.2.2.1 23 = .ok (.aload_n 0, 1) := by decide +kernel
theorem dX8_fault_24 : decode mX8_fault.2.2.1 24 = .ok (.invokevirtual 207, 3) := by decide +kernel
theorem dX8_fault_27 : decode mX8_fault.2.2.1 27 = .ok (.istore_n 2, 1) := by decide +kernel
theorem dX8_fault_28 : decode mX8_fault.2.2.1 28 = .ok (.aload_n 0, 1) := by decide +kernel
theorem dX8_fault_29 : decode mX8_fault.2.2.1 29 = .ok (.getfield 16, 3) := by decide +kernel
theorem dX8_fault_32 : decode mX8_fault.2.2.1 32 = .ok (.aload_n 0, 1) := by decide +kernel
theorem dX8_fault_33 : decode mX8_fault.2.2.1 33 = .ok (.getfield 7, 3) := by decide +kernel
theorem dX8_fault_36 : decode mX8_fault.2.2.1 36 = .ok (.invokestatic 203, 3) := by decide +kernel
theorem dX8_fault_39 : decode mX8_fault.2.2.1 39 = .ok (.iload_n 2, 1) := by decide +kernel
theorem dX8_fault_40 : decode mX8_fault.2.2.1 40 = .ok (.ifCond .eq 8, 3) := by decide +kernel
theorem dX8_fault_43 : decode mX8_fault.2.2.1 43 = .ok (.ldc 57, 2) := by decide +kernel
theorem dX8_fault_45 : decode mX8_fault.2.2.1 45 = .ok (.goto 30, 3) := by decide +kernel
theorem dX8_fault_48 : decode mX8_fault.2.2.1 48 = .ok (.iload_n 1, 1) := by decide +kernel
theorem dX8_fault_49 : decode mX8_fault.2.2.1 49 = .ok (.ifCond .ne 10, 3) := by decide +kernel
theorem dX8_fault_52 : decode mX8_fault.2.2.1 52 = .ok (.aload_n 0, 1) := by decide +kernel
theorem dX8_fault_53 : decode mX8_fault.2.2.1 53 = .ok (.getfield 184, 3) := by decide +kernel
theorem dX8_fault_56 : decode mX8_fault.2.2.1 56 = .ok (.goto 19, 3) := by decide +kernel
theorem dX8_fault_59 : decode mX8_fault.2.2.1 59 = .ok (.iload_n 1, 1) := by decide +kernel
theorem dX8_fault_60 : decode mX8_fault.2.2.1 60 = .ok (.iconst 1, 1) := by decide +kernel
theorem dX8_fault_61 : decode mX8_fault.2.2.1 61 = .ok (.if_icmp .ne 10, 3) := by decide +kernel
theorem dX8_fault_64 : decode mX8_fault.2.2.1 64 = .ok (.aload_n 0, 1) := by decide +kernel
theorem dX8_fault_65 : decode mX8_fault.2.2.1 65 = .ok (.getfield 197, 3) := by decide +kernel
theorem dX8_fault_68 : decode mX8_fault.2.2.1 68 = .ok (.goto 7, 3) := by decide +kernel
theorem dX8_fault_71 : decode mX8_fault.2.2.1 71 = .ok (.aload_n 0, 1) := by decide +kernel
theorem dX8_fault_72 : decode mX8_fault.2.2.1 72 = .ok (.getfield 200, 3) := by decide +kernel
theorem dX8_fault_75 : decode mX8_fault.2.2.1 75 = .ok (.ireturn, 1) := by decide +kernel
theorem dX8_play_0 : decode mX8_play.2.2.1 0 = .ok (.aload_n 0, 1) := by decide +kernel
theorem dX8_play_1 : decode mX8_play.2.2.1 1 = .ok (.getfield 7, 3) := by decide +kernel
theorem dX8_play_4 : decode mX8_play.2.2.1 4 = .ok (.aload_n 0, 1) := by decide +kernel
theorem dX8_play_5 : decode mX8_play.2.2.1 5 = .ok (.getfield 16, 3) := by decide +kernel
theorem dX8_play_8 : decode mX8_play.2.2.1 8 = .ok (.invokestatic 203, 3) := by decide +kernel
theorem dX8_play_11 : decode mX8_play.2.2.1 11 = .ok (.aload_n 0, 1) := by decide +kernel
theorem dX8_play_12 : decode mX8_play.2.2.1 12 = .ok (.invokevirtual 207, 3) := by decide +kernel
theorem dX8_play_15 : decode mX8_play.2.2.1 15 = .ok (.istore_n 1, 1) := by decide +kernel
theorem dX8_play_16 : decode mX8_play.2.2.1 16 = .ok (.aload_n 0, 1) := by decide +kernel
theorem dX8_play_17 : decode mX8_play.2.2.1 17 = .ok (.getfield 16, 3) := by decide +kernel
theorem dX8_play_20 : decode mX8_play.2.2.1 20 = .ok (.aload_n 0, 1) := by decide +kernel
theorem dX8_play_21 : decode mX8_play.2.2.1 21 = .ok (.getfield 7, 3) := by decide +kernel
theorem dX8_play_24 : decode mX8_play.2.2.1 24 = .ok (.invokestatic 203, 3) := by decide +kernel
theorem dX8_play_27 : decode mX8_play.2.2.1 27 = .ok (.iload_n 1, 1) := by decide +kernel
theorem dX8_play_28 : decode mX8_play.2.2.1 28 = .ok (.ifCond .ne 6, 3) := by decide +kernel
theorem dX8_play_31 : decode mX8_play.2.2.1 31 = .ok (.ldc 91, 2) := by decide +kernel
theorem dX8_play_33 : decode mX8_play.2.2.1 33 = .ok (.ireturn, 1) := by decide +kernel
theorem dX8_play_34 : decode mX8_play.2.2.1 34 = .ok (.aload_n 0, 1) := by decide +kernel
theorem dX8_play_35 : decode mX8_play.2.2.1 35 = .ok (.invokevirtual 78, 3) := by decide +kernel
theorem dX8_play_38 : decode mX8_play.2.2.1 38 = .ok (.aload_n 0, 1) := by decide +kernel
theorem dX8_play_39 : decode mX8_play.2.2.1 39 = .ok (.invokevirtual 207, 3) := by decide +kernel
theorem dX8_play_42 : decode mX8_play.2.2.1 42 = .ok (.ifCond .eq 10, 3) := by decide +kernel
theorem dX8_play_45 : decode mX8_play.2.2.1 45 = .ok (.aload_n 0, 1) := by decide +kernel
theorem dX8_play_46 : decode mX8_play.2.2.1 46 = .ok (.getfield 187, 3) := by decide +kernel
theorem dX8_play_49 : decode mX8_play.2.2.1 49 = .ok (.goto 5, 3) := by decide +kernel
theorem dX8_play_52 : decode mX8_play.2.2.1 52 = .ok (.ldc 57, 2) := by decide +kernel
theorem dX8_play_54 : decode mX8_play.2.2.1 54 = .ok (.ireturn, 1) := by decide +kernel
theorem dJxf58ca_isNaN_12338_0 : decode mJxf58ca_isNaN_12338.2.2.1 0 = .ok (.fload_n 0, 1) := by decide +kernel
theorem dJxf58ca_isNaN_12338_1 : decode mJxf58ca_isNaN_12338.2.2.1 1 = .ok (.fload_n 0, 1) := by decide +kernel
theorem dJxf58ca_isNaN_12338_2 : decode mJxf58ca_isNaN_12338.2.2.1 2 = .ok (.fcmp .l, 1) := by decide +kernel
theorem dJxf58ca_isNaN_12338_3 : decode mJxf58ca_isNaN_12338.2.2.1 3 = .ok (.ifCond .eq 7, 3) := by decide +kernel
theorem dJxf58ca_isNaN_12338_6 : decode mJxf58ca_isNaN_12338.2.2.1 6 = .ok (.iconst 1, 1) := by decide +kernel
theorem dJxf58ca_isNaN_12338_7 : decode mJxf58ca_isNaN_12338.2.2.1 7 = .ok (.goto 4, 3) := by decide +kernel
theorem dJxf58ca_isNaN_12338_10 : decode mJxf58ca_isNaN_12338.2.2.1 10 = .ok (.iconst 0, 1) := by decide +kernel
theorem dJxf58ca_isNaN_12338_11 : decode mJxf58ca_isNaN_12338.2.2.1 11 = .ok (.ireturn, 1) := by decide +kernel
theorem dJxf58ca_floatToIntBits_5c35a_0 : decode mJxf58ca_floatToIntBits_5c35a.2.2.1 0 = .ok (.fload_n 0, 1) := by decide +kernel
theorem dJxf58ca_floatToIntBits_5c35a_1 : decode mJxf58ca_floatToIntBits_5c35a.2.2.1 1 = .ok (.invokestatic 59, 3) := by decide +kernel
theorem dJxf58ca_floatToIntBits_5c35a_4 : decode mJxf58ca_floatToIntBits_5c35a.2.2.1 4 = .ok (.ifCond .ne 8, 3) := by decide +kernel
theorem dJxf58ca_floatToIntBits_5c35a_7 : decode mJxf58ca_floatToIntBits_5c35a.2.2.1 7 = .ok (.fload_n 0, 1) := by decide +kernel
theorem dJxf58ca_floatToIntBits_5c35a_8 : decode mJxf58ca_floatToIntBits_5c35a.2.2.1 8 = .ok (.invokestatic 74, 3) := by decide +kernel
theorem dJxf58ca_floatToIntBits_5c35a_11 : decode mJxf58ca_floatToIntBits_5c35a.2.2.1 11 = .ok (.ireturn, 1) := by decide +kernel
theorem dJxf58ca_floatToIntBits_5c35a_12 : decode mJxf58ca_floatToIntBits_5c35a.2.2.1 12 = .ok (.ldc 77, 2) := by decide +kernel
theorem dJxf58ca_floatToIntBits_5c35a_14 : decode mJxf58ca_floatToIntBits_5c35a.2.2.1 14 = .ok (.ireturn, 1) := by decide +kernel
theorem dJ9_max_7cf53_0 : decode mJ9_max_7cf53.2.2.1 0 = .ok (.iload_n 0, 1) := by decide +kernel
theorem dJ9_max_7cf53_1 : decode mJ9_max_7cf53.2.2.1 1 = .ok (.iload_n 1, 1) := by decide +kernel
theorem dJ9_max_7cf53_2 : decode mJ9_max_7cf53.2.2.1 2 = .ok (.if_icmp .lt 7, 3) := by decide +kernel
theorem dJ9_max_7cf53_5 : decode mJ9_max_7cf53.2.2.1 5 = .ok (.iload_n 0, 1) := by decide +kernel
theorem dJ9_max_7cf53_6 : decode mJ9_max_7cf53.2.2.1 6 = .ok (.goto 4, 3) := by decide +kernel
theorem dJ9_max_7cf53_9 : decode mJ9_max_7cf53.2.2.1 9 = .ok (.iload_n 1, 1) := by decide +kernel
theorem dJ9_max_7cf53_10 : decode mJ9_max_7cf53.2.2.1 10 = .ok (.ireturn, 1) := by decide +kernel
theorem dJ9_min_7cf53_0 : decode mJ9_min_7cf53.2.2.1 0 = .ok (.iload_n 0, 1) := by decide +kernel
theorem dJ9_min_7cf53_1 : decode mJ9_min_7cf53.2.2.1 1 = .ok (.iload_n 1, 1) := by decide +kernel
theorem dJ9_min_7cf53_2 : decode mJ9_min_7cf53.2.2.1 2 = .ok (.if_icmp .gt 7, 3) := by decide +kernel
theorem dJ9_min_7cf53_5 : decode mJ9_min_7cf53.2.2.1 5 = .ok (.iload_n 0, 1) := by decide +kernel
theorem dJ9_min_7cf53_6 : decode mJ9_min_7cf53.2.2.1 6 = .ok (.goto 4, 3) := by decide +kernel
theorem dJ9_min_7cf53_9 : decode mJ9_min_7cf53.2.2.1 9 = .ok (.iload_n 1, 1) := by decide +kernel
theorem dJ9_min_7cf53_10 : decode mJ9_min_7cf53.2.2.1 10 = .ok (.ireturn, 1) := by decide +kernel
theorem dL_law_0 : decode mL_law.2.2.1 0 = .ok (.new 7, 3) := by decide +kernel
theorem dL_law_3 : decode mL_law.2.2.1 3 = .ok (.dup, 1) := by decide +kernel
theorem dL_law_4 : decode mL_law.2.2.1 4 = .ok (.invokespecial 9, 3) := by decide +kernel
theorem dL_law_7 : decode mL_law.2.2.1 7 = .ok (.astore_n 1, 1) := by decide +kernel
theorem dL_law_8 : decode mL_law.2.2.1 8 = .ok (.new 10, 3) := by decide +kernel
theorem dL_law_11 : decode mL_law.2.2.1 11 = .ok (.dup, 1) := by decide +kernel
theorem dL_law_12 : decode mL_law.2.2.1 12 = .ok (.invokespecial 12, 3) := by decide +kernel
theorem dL_law_15 : decode mL_law.2.2.1 15 = .ok (.astore_n 2, 1) := by decide +kernel
theorem dL_law_16 : decode mL_law.2.2.1 16 = .ok (.iconst 0, 1) := by decide +kernel
theorem dL_law_17 : decode mL_law.2.2.1 17 = .ok (.istore_n 3, 1) := by decide +kernel
theorem dL_law_18 : decode mL_law.2.2.1 18 = .ok (.iload_n 3, 1) := by decide +kernel
theorem dL_law_19 : decode mL_law.2.2.1 19 = .ok (.aload_n 0, 1) := by decide +kernel
theorem dL_law_20 : decode mL_law.2.2.1 20 = .ok (.arraylength, 1) := by decide +kernel
theorem dL_law_21 : decode mL_law.2.2.1 21 = .ok (.bipush 6, 2) := by decide +kernel
theorem dL_law_23 : decode mL_law.2.2.1 23 = .ok (.isub, 1) := by decide +kernel
theorem dL_law_24 : decode mL_law.2.2.1 24 = .ok (.if_icmp .gt 882, 3) := by decide +kernel
theorem dL_law_27 : decode mL_law.2.2.1 27 = .ok (.aload_n 0, 1) := by decide +kernel
theorem dL_law_28 : decode mL_law.2.2.1 28 = .ok (.iload_n 3, 1) := by decide +kernel
theorem dL_law_29 : decode mL_law.2.2.1 29 = .ok (.iaload, 1) := by decide +kernel
theorem dL_law_30 : decode mL_law.2.2.1 30 = .ok (.bipush 31, 2) := by decide +kernel
theorem dL_law_32 : decode mL_law.2.2.1 32 = .ok (.iand, 1) := by decide +kernel
theorem dL_law_33 : decode mL_law.2.2.1 33 = .ok (.tableswitch 867 0 25 #[119, 152, 185, 208, 231, 254, 267, 320, 383, 426, 459, 492, 525, 568, 591, 624, 657, 680, 703, 726, 759, 782, 795, 818, 831, 854], 119) := by decide +kernel
theorem dL_law_152 : decode mL_law.2.2.1 152 = .ok (.aload_n 1, 1) := by decide +kernel
theorem dL_law_153 : decode mL_law.2.2.1 153 = .ok (.aload_n 0, 1) := by decide +kernel
theorem dL_law_154 : decode mL_law.2.2.1 154 = .ok (.iload_n 3, 1) := by decide +kernel
theorem dL_law_155 : decode mL_law.2.2.1 155 = .ok (.iconst 1, 1) := by decide +kernel
theorem dL_law_156 : decode mL_law.2.2.1 156 = .ok (.iadd, 1) := by decide +kernel
theorem dL_law_157 : decode mL_law.2.2.1 157 = .ok (.iaload, 1) := by decide +kernel
theorem dL_law_158 : decode mL_law.2.2.1 158 = .ok (.aload_n 0, 1) := by decide +kernel
theorem dL_law_159 : decode mL_law.2.2.1 159 = .ok (.iload_n 3, 1) := by decide +kernel
theorem dL_law_160 : decode mL_law.2.2.1 160 = .ok (.iconst 2, 1) := by decide +kernel
theorem dL_law_161 : decode mL_law.2.2.1 161 = .ok (.iadd, 1) := by decide +kernel
theorem dL_law_162 : decode mL_law.2.2.1 162 = .ok (.iaload, 1) := by decide +kernel
theorem dL_law_163 : decode mL_law.2.2.1 163 = .ok (.invokevirtual 13, 3) := by decide +kernel
theorem dL_law_166 : decode mL_law.2.2.1 166 = .ok (.aload_n 2, 1) := by decide +kernel
theorem dL_law_167 : decode mL_law.2.2.1 167 = .ok (.aload_n 0, 1) := by decide +kernel
theorem dL_law_168 : decode mL_law.2.2.1 168 = .ok (.iload_n 3, 1) := by decide +kernel
theorem dL_law_169 : decode mL_law.2.2.1 169 = .ok (.iconst 1, 1) := by decide +kernel
theorem dL_law_170 : decode mL_law.2.2.1 170 = .ok (.iadd, 1) := by decide +kernel
theorem dL_law_171 : decode mL_law.2.2.1 171 = .ok (.iaload, 1) := by decide +kernel
theorem dL_law_172 : decode mL_law.2.2.1 172 = .ok (.aload_n 0, 1) := by decide +kernel
theorem dL_law_173 : decode mL_law.2.2.1 173 = .ok (.iload_n 3, 1) := by decide +kernel
theorem dL_law_174 : decode mL_law.2.2.1 174 = .ok (.iconst 2, 1) := by decide +kernel
theorem dL_law_175 : decode mL_law.2.2.1 175 = .ok (.iadd, 1) := by decide +kernel
theorem dL_law_176 : decode mL_law.2.2.1 176 = .ok (.iaload, 1) := by decide +kernel
theorem dL_law_177 : decode mL_law.2.2.1 177 = .ok (.invokevirtual 17, 3) := by decide +kernel
theorem dL_law_180 : decode mL_law.2.2.1 180 = .ok (.if_icmp .eq 720, 3) := by decide +kernel
theorem dL_law_183 : decode mL_law.2.2.1 183 = .ok (.iconst 0, 1) := by decide +kernel
theorem dL_law_184 : decode mL_law.2.2.1 184 = .ok (.ireturn, 1) := by decide +kernel
theorem dL_law_185 : decode mL_law.2.2.1 185 = .ok (.aload_n 1, 1) := by decide +kernel
theorem dL_law_186 : decode mL_law.2.2.1 186 = .ok (.aload_n 0, 1) := by decide +kernel
theorem dL_law_187 : decode mL_law.2.2.1 187 = .ok (.iload_n 3, 1) := by decide +kernel
theorem dL_law_188 : decode mL_law.2.2.1 188 = .ok (.iconst 1, 1) := by decide +kernel
theorem dL_law_189 : decode mL_law.2.2.1 189 = .ok (.iadd, 1) := by decide +kernel
theorem dL_law_190 : decode mL_law.2.2.1 190 = .ok (.iaload, 1) := by decide +kernel
theorem dL_law_191 : decode mL_law.2.2.1 191 = .ok (.aload_n 0, 1) := by decide +kernel
theorem dL_law_192 : decode mL_law.2.2.1 192 = .ok (.iload_n 3, 1) := by decide +kernel
theorem dL_law_193 : decode mL_law.2.2.1 193 = .ok (.iconst 2, 1) := by decide +kernel
theorem dL_law_194 : decode mL_law.2.2.1 194 = .ok (.iadd, 1) := by decide +kernel
theorem dL_law_195 : decode mL_law.2.2.1 195 = .ok (.iaload, 1) := by decide +kernel
theorem dL_law_196 : decode mL_law.2.2.1 196 = .ok (.invokevirtual 18, 3) := by decide +kernel
theorem dL_law_199 : decode mL_law.2.2.1 199 = .ok (.aload_n 2, 1) := by decide +kernel
theorem dL_law_200 : decode mL_law.2.2.1 200 = .ok (.aload_n 0, 1) := by decide +kernel
theorem dL_law_201 : decode mL_law.2.2.1 201 = .ok (.iload_n 3, 1) := by decide +kernel
theorem dL_law_202 : decode mL_law.2.2.1 202 = .ok (.iconst 1, 1) := by decide +kernel
theorem dL_law_203 : decode mL_law.2.2.1 203 = .ok (.iadd, 1) := by decide +kernel
theorem dL_law_204 : decode mL_law.2.2.1 204 = .ok (.iaload, 1) := by decide +kernel
theorem dL_law_205 : decode mL_law.2.2.1 205 = .ok (.aload_n 0, 1) := by decide +kernel
theorem dL_law_206 : decode mL_law.2.2.1 206 = .ok (.iload_n 3, 1) := by decide +kernel
theorem dL_law_207 : decode mL_law.2.2.1 207 = .ok (.iconst 2, 1) := by decide +kernel
theorem dL_law_208 : decode mL_law.2.2.1 208 = .ok (.iadd, 1) := by decide +kernel
theorem dL_law_209 : decode mL_law.2.2.1 209 = .ok (.iaload, 1) := by decide +kernel
theorem dL_law_210 : decode mL_law.2.2.1 210 = .ok (.invokevirtual 21, 3) := by decide +kernel
theorem dL_law_213 : decode mL_law.2.2.1 213 = .ok (.if_icmp .eq 687, 3) := by decide +kernel
theorem dL_law_216 : decode mL_law.2.2.1 216 = .ok (.iconst 0, 1) := by decide +kernel
theorem dL_law_217 : decode mL_law.2.2.1 217 = .ok (.ireturn, 1) := by decide +kernel
theorem dL_law_218 : decode mL_law.2.2.1 218 = .ok (.aload_n 1, 1) := by decide +kernel
theorem dL_law_219 : decode mL_law.2.2.1 219 = .ok (.aload_n 0, 1) := by decide +kernel
theorem dL_law_220 : decode mL_law.2.2.1 220 = .ok (.iload_n 3, 1) := by decide +kernel
theorem dL_law_221 : decode mL_law.2.2.1 221 = .ok (.iconst 1, 1) := by decide +kernel
theorem dL_law_222 : decode mL_law.2.2.1 222 = .ok (.iadd, 1) := by decide +kernel
theorem dL_law_223 : decode mL_law.2.2.1 223 = .ok (.iaload, 1) := by decide +kernel
theorem dL_law_224 : decode mL_law.2.2.1 224 = .ok (.invokevirtual 22, 3) := by decide +kernel
theorem dL_law_227 : decode mL_law.2.2.1 227 = .ok (.aload_n 2, 1) := by decide +kernel
theorem dL_law_228 : decode mL_law.2.2.1 228 = .ok (.aload_n 0, 1) := by decide +kernel
theorem dL_law_229 : decode mL_law.2.2.1 229 = .ok (.iload_n 3, 1) := by decide +kernel
theorem dL_law_230 : decode mL_law.2.2.1 230 = .ok (.iconst 1, 1) := by decide +kernel
theorem dL_law_231 : decode mL_law.2.2.1 231 = .ok (.iadd, 1) := by decide +kernel
theorem dL_law_232 : decode mL_law.2.2.1 232 = .ok (.iaload, 1) := by decide +kernel
theorem dL_law_233 : decode mL_law.2.2.1 233 = .ok (.invokevirtual 26, 3) := by decide +kernel
theorem dL_law_236 : decode mL_law.2.2.1 236 = .ok (.if_icmp .eq 664, 3) := by decide +kernel
theorem dL_law_239 : decode mL_law.2.2.1 239 = .ok (.iconst 0, 1) := by decide +kernel
theorem dL_law_240 : decode mL_law.2.2.1 240 = .ok (.ireturn, 1) := by decide +kernel
theorem dL_law_241 : decode mL_law.2.2.1 241 = .ok (.aload_n 1, 1) := by decide +kernel
theorem dL_law_242 : decode mL_law.2.2.1 242 = .ok (.aload_n 0, 1) := by decide +kernel
theorem dL_law_243 : decode mL_law.2.2.1 243 = .ok (.iload_n 3, 1) := by decide +kernel
theorem dL_law_244 : decode mL_law.2.2.1 244 = .ok (.iconst 1, 1) := by decide +kernel
theorem dL_law_245 : decode mL_law.2.2.1 245 = .ok (.iadd, 1) := by decide +kernel
theorem dL_law_246 : decode mL_law.2.2.1 246 = .ok (.iaload, 1) := by decide +kernel
theorem dL_law_247 : decode mL_law.2.2.1 247 = .ok (.invokevirtual 27, 3) := by decide +kernel
theorem dL_law_250 : decode mL_law.2.2.1 250 = .ok (.aload_n 2, 1) := by decide +kernel
theorem dL_law_251 : decode mL_law.2.2.1 251 = .ok (.aload_n 0, 1) := by decide +kernel
theorem dL_law_252 : decode mL_law.2.2.1 252 = .ok (.iload_n 3, 1) := by decide +kernel
theorem dL_law_253 : decode mL_law.2.2.1 253 = .ok (.iconst 1, 1) := by decide +kernel
theorem dL_law_254 : decode mL_law.2.2.1 254 = .ok (.iadd, 1) := by decide +kernel
theorem dL_law_255 : decode mL_law.2.2.1 255 = .ok (.iaload, 1) := by decide +kernel
theorem dL_law_256 : decode mL_law.2.2.1 256 = .ok (.invokevirtual 30, 3) := by decide +kernel
theorem dL_law_259 : decode mL_law.2.2.1 259 = .ok (.if_icmp .eq 641, 3) := by decide +kernel
theorem dL_law_262 : decode mL_law.2.2.1 262 = .ok (.iconst 0, 1) := by decide +kernel
theorem dL_law_263 : decode mL_law.2.2.1 263 = .ok (.ireturn, 1) := by decide +kernel
theorem dL_law_264 : decode mL_law.2.2.1 264 = .ok (.aload_n 1, 1) := by decide +kernel
theorem dL_law_265 : decode mL_law.2.2.1 265 = .ok (.aload_n 0, 1) := by decide +kernel
theorem dL_law_266 : decode mL_law.2.2.1 266 = .ok (.iload_n 3, 1) := by decide +kernel
theorem dL_law_267 : decode mL_law.2.2.1 267 = .ok (.iconst 1, 1) := by decide +kernel
theorem dL_law_268 : decode mL_law.2.2.1 268 = .ok (.iadd, 1) := by decide +kernel
theorem dL_law_269 : decode mL_law.2.2.1 269 = .ok (.iaload, 1) := by decide +kernel
theorem dL_law_270 : decode mL_law.2.2.1 270 = .ok (.invokevirtual 31, 3) := by decide +kernel
theorem dL_law_273 : decode mL_law.2.2.1 273 = .ok (.aload_n 2, 1) := by decide +kernel
theorem dL_law_274 : decode mL_law.2.2.1 274 = .ok (.aload_n 0, 1) := by decide +kernel
theorem dL_law_275 : decode mL_law.2.2.1 275 = .ok (.iload_n 3, 1) := by decide +kernel
theorem dL_law_276 : decode mL_law.2.2.1 276 = .ok (.iconst 1, 1) := by decide +kernel
theorem dL_law_277 : decode mL_law.2.2.1 277 = .ok (.iadd, 1) := by decide +kernel
theorem dL_law_278 : decode mL_law.2.2.1 278 = .ok (.iaload, 1) := by decide +kernel
theorem dL_law_279 : decode mL_law.2.2.1 279 = .ok (.invokevirtual 34, 3) := by decide +kernel
theorem dL_law_282 : decode mL_law.2.2.1 282 = .ok (.if_icmp .eq 618, 3) := by decide +kernel
theorem dL_law_285 : decode mL_law.2.2.1 285 = .ok (.iconst 0, 1) := by decide +kernel
theorem dL_law_286 : decode mL_law.2.2.1 286 = .ok (.ireturn, 1) := by decide +kernel
theorem dL_law_287 : decode mL_law.2.2.1 287 = .ok (.aload_n 1, 1) := by decide +kernel
theorem dL_law_288 : decode mL_law.2.2.1 288 = .ok (.invokevirtual 35, 3) := by decide +kernel
theorem dL_law_291 : decode mL_law.2.2.1 291 = .ok (.aload_n 2, 1) := by decide +kernel
theorem dL_law_292 : decode mL_law.2.2.1 292 = .ok (.invokevirtual 39, 3) := by decide +kernel
theorem dL_law_295 : decode mL_law.2.2.1 295 = .ok (.if_icmp .eq 605, 3) := by decide +kernel
theorem dL_law_298 : decode mL_law.2.2.1 298 = .ok (.iconst 0, 1) := by decide +kernel
theorem dL_law_299 : decode mL_law.2.2.1 299 = .ok (.ireturn, 1) := by decide +kernel
theorem dL_law_300 : decode mL_law.2.2.1 300 = .ok (.aload_n 1, 1) := by decide +kernel
theorem dL_law_301 : decode mL_law.2.2.1 301 = .ok (.aload_n 0, 1) := by decide +kernel
theorem dL_law_302 : decode mL_law.2.2.1 302 = .ok (.iload_n 3, 1) := by decide +kernel
theorem dL_law_303 : decode mL_law.2.2.1 303 = .ok (.iconst 1, 1) := by decide +kernel
theorem dL_law_304 : decode mL_law.2.2.1 304 = .ok (.iadd, 1) := by decide +kernel
theorem dL_law_305 : decode mL_law.2.2.1 305 = .ok (.iaload, 1) := by decide +kernel
theorem dL_law_306 : decode mL_law.2.2.1 306 = .ok (.aload_n 0, 1) := by decide +kernel
theorem dL_law_307 : decode mL_law.2.2.1 307 = .ok (.iload_n 3, 1) := by decide +kernel
theorem dL_law_308 : decode mL_law.2.2.1 308 = .ok (.iconst 2, 1) := by decide +kernel
theorem dL_law_309 : decode mL_law.2.2.1 309 = .ok (.iadd, 1) := by decide +kernel
theorem dL_law_310 : decode mL_law.2.2.1 310 = .ok (.iaload, 1) := by decide +kernel
theorem dL_law_311 : decode mL_law.2.2.1 311 = .ok (.aload_n 0, 1) := by decide +kernel
theorem dL_law_312 : decode mL_law.2.2.1 312 = .ok (.iload_n 3, 1) := by decide +kernel
theorem dL_law_313 : decode mL_law.2.2.1 313 = .ok (.iconst 3, 1) := by decide +kernel
theorem dL_law_314 : decode mL_law.2.2.1 314 = .ok (.iadd, 1) := by decide +kernel
theorem dL_law_315 : decode mL_law.2.2.1 315 = .ok (.iaload, 1) := by decide +kernel
theorem dL_law_316 : decode mL_law.2.2.1 316 = .ok (.aload_n 0, 1) := by decide +kernel
theorem dL_law_317 : decode mL_law.2.2.1 317 = .ok (.iload_n 3, 1) := by decide +kernel
theorem dL_law_318 : decode mL_law.2.2.1 318 = .ok (.iconst 4, 1) := by decide +kernel
theorem dL_law_319 : decode mL_law.2.2.1 319 = .ok (.iadd, 1) := by decide +kernel
theorem dL_law_320 : decode mL_law.2.2.1 320 = .ok (.iaload, 1) := by decide +kernel
theorem dL_law_321 : decode mL_law.2.2.1 321 = .ok (.invokevirtual 40, 3) := by decide +kernel
theorem dL_law_324 : decode mL_law.2.2.1 324 = .ok (.aload_n 2, 1) := by decide +kernel
theorem dL_law_325 : decode mL_law.2.2.1 325 = .ok (.aload_n 0, 1) := by decide +kernel
theorem dL_law_326 : decode mL_law.2.2.1 326 = .ok (.iload_n 3, 1) := by decide +kernel
theorem dL_law_327 : decode mL_law.2.2.1 327 = .ok (.iconst 1, 1) := by decide +kernel
theorem dL_law_328 : decode mL_law.2.2.1 328 = .ok (.iadd, 1) := by decide +kernel
theorem dL_law_329 : decode mL_law.2.2.1 329 = .ok (.iaload, 1) := by decide +kernel
theorem dL_law_330 : decode mL_law.2.2.1 330 = .ok (.aload_n 0, 1) := by decide +kernel
theorem dL_law_331 : decode mL_law.2.2.1 331 = .ok (.iload_n 3, 1) := by decide +kernel
theorem dL_law_332 : decode mL_law.2.2.1 332 = .ok (.iconst 2, 1) := by decide +kernel
theorem dL_law_333 : decode mL_law.2.2.1 333 = .ok (.iadd, 1) := by decide +kernel
theorem dL_law_334 : decode mL_law.2.2.1 334 = .ok (.iaload, 1) := by decide +kernel
theorem dL_law_335 : decode mL_law.2.2.1 335 = .ok (.aload_n 0, 1) := by decide +kernel
theorem dL_law_336 : decode mL_law.2.2.1 336 = .ok (.iload_n 3, 1) := by decide +kernel
theorem dL_law_337 : decode mL_law.2.2.1 337 = .ok (.iconst 3, 1) := by decide +kernel
theorem dL_law_338 : decode mL_law.2.2.1 338 = .ok (.iadd, 1) := by decide +kernel
theorem dL_law_339 : decode mL_law.2.2.1 339 = .ok (.iaload, 1) := by decide +kernel
theorem dL_law_340 : decode mL_law.2.2.1 340 = .ok (.aload_n 0, 1) := by decide +kernel
theorem dL_law_341 : decode mL_law.2.2.1 341 = .ok (.iload_n 3, 1) := by decide +kernel
theorem dL_law_342 : decode mL_law.2.2.1 342 = .ok (.iconst 4, 1) := by decide +kernel
theorem dL_law_343 : decode mL_law.2.2.1 343 = .ok (.iadd, 1) := by decide +kernel
theorem dL_law_344 : decode mL_law.2.2.1 344 = .ok (.iaload, 1) := by decide +kernel
theorem dL_law_345 : decode mL_law.2.2.1 345 = .ok (.invokevirtual 44, 3) := by decide +kernel
theorem dL_law_348 : decode mL_law.2.2.1 348 = .ok (.if_icmp .eq 552, 3) := by decide +kernel
theorem dL_law_351 : decode mL_law.2.2.1 351 = .ok (.iconst 0, 1) := by decide +kernel
theorem dL_law_352 : decode mL_law.2.2.1 352 = .ok (.ireturn, 1) := by decide +kernel
theorem dL_law_353 : decode mL_law.2.2.1 353 = .ok (.aload_n 1, 1) := by decide +kernel
theorem dL_law_354 : decode mL_law.2.2.1 354 = .ok (.aload_n 0, 1) := by decide +kernel
theorem dL_law_355 : decode mL_law.2.2.1 355 = .ok (.iload_n 3, 1) := by decide +kernel
theorem dL_law_356 : decode mL_law.2.2.1 356 = .ok (.iconst 1, 1) := by decide +kernel
theorem dL_law_357 : decode mL_law.2.2.1 357 = .ok (.iadd, 1) := by decide +kernel
theorem dL_law_358 : decode mL_law.2.2.1 358 = .ok (.iaload, 1) := by decide +kernel
theorem dL_law_359 : decode mL_law.2.2.1 359 = .ok (.aload_n 0, 1) := by decide +kernel
theorem dL_law_360 : decode mL_law.2.2.1 360 = .ok (.iload_n 3, 1) := by decide +kernel
theorem dL_law_361 : decode mL_law.2.2.1 361 = .ok (.iconst 2, 1) := by decide +kernel
theorem dL_law_362 : decode mL_law.2.2.1 362 = .ok (.iadd, 1) := by decide +kernel
theorem dL_law_363 : decode mL_law.2.2.1 363 = .ok (.iaload, 1) := by decide +kernel
theorem dL_law_364 : decode mL_law.2.2.1 364 = .ok (.aload_n 0, 1) := by decide +kernel
theorem dL_law_365 : decode mL_law.2.2.1 365 = .ok (.iload_n 3, 1) := by decide +kernel
theorem dL_law_366 : decode mL_law.2.2.1 366 = .ok (.iconst 3, 1) := by decide +kernel
theorem dL_law_367 : decode mL_law.2.2.1 367 = .ok (.iadd, 1) := by decide +kernel
theorem dL_law_368 : decode mL_law.2.2.1 368 = .ok (.iaload, 1) := by decide +kernel
theorem dL_law_369 : decode mL_law.2.2.1 369 = .ok (.aload_n 0, 1) := by decide +kernel
theorem dL_law_370 : decode mL_law.2.2.1 370 = .ok (.iload_n 3, 1) := by decide +kernel
theorem dL_law_371 : decode mL_law.2.2.1 371 = .ok (.iconst 4, 1) := by decide +kernel
theorem dL_law_372 : decode mL_law.2.2.1 372 = .ok (.iadd, 1) := by decide +kernel
theorem dL_law_373 : decode mL_law.2.2.1 373 = .ok (.iaload, 1) := by decide +kernel
theorem dL_law_374 : decode mL_law.2.2.1 374 = .ok (.aload_n 0, 1) := by decide +kernel
theorem dL_law_375 : decode mL_law.2.2.1 375 = .ok (.iload_n 3, 1) := by decide +kernel
theorem dL_law_376 : decode mL_law.2.2.1 376 = .ok (.iconst 5, 1) := by decide +kernel
theorem dL_law_377 : decode mL_law.2.2.1 377 = .ok (.iadd, 1) := by decide +kernel
theorem dL_law_378 : decode mL_law.2.2.1 378 = .ok (.iaload, 1) := by decide +kernel
theorem dL_law_379 : decode mL_law.2.2.1 379 = .ok (.invokevirtual 45, 3) := by decide +kernel
theorem dL_law_382 : decode mL_law.2.2.1 382 = .ok (.aload_n 2, 1) := by decide +kernel
theorem dL_law_383 : decode mL_law.2.2.1 383 = .ok (.aload_n 0, 1) := by decide +kernel
theorem dL_law_384 : decode mL_law.2.2.1 384 = .ok (.iload_n 3, 1) := by decide +kernel
theorem dL_law_385 : decode mL_law.2.2.1 385 = .ok (.iconst 1, 1) := by decide +kernel
theorem dL_law_386 : decode mL_law.2.2.1 386 = .ok (.iadd, 1) := by decide +kernel
theorem dL_law_387 : decode mL_law.2.2.1 387 = .ok (.iaload, 1) := by decide +kernel
theorem dL_law_388 : decode mL_law.2.2.1 388 = .ok (.aload_n 0, 1) := by decide +kernel
theorem dL_law_389 : decode mL_law.2.2.1 389 = .ok (.iload_n 3, 1) := by decide +kernel
theorem dL_law_390 : decode mL_law.2.2.1 390 = .ok (.iconst 2, 1) := by decide +kernel
theorem dL_law_391 : decode mL_law.2.2.1 391 = .ok (.iadd, 1) := by decide +kernel
theorem dL_law_392 : decode mL_law.2.2.1 392 = .ok (.iaload, 1) := by decide +kernel
theorem dL_law_393 : decode mL_law.2.2.1 393 = .ok (.aload_n 0, 1) := by decide +kernel
theorem dL_law_394 : decode mL_law.2.2.1 394 = .ok (.iload_n 3, 1) := by decide +kernel
theorem dL_law_395 : decode mL_law.2.2.1 395 = .ok (.iconst 3, 1) := by decide +kernel
theorem dL_law_396 : decode mL_law.2.2.1 396 = .ok (.iadd, 1) := by decide +kernel
theorem dL_law_397 : decode mL_law.2.2.1 397 = .ok (.iaload, 1) := by decide +kernel
theorem dL_law_398 : decode mL_law.2.2.1 398 = .ok (.aload_n 0, 1) := by decide +kernel
theorem dL_law_399 : decode mL_law.2.2.1 399 = .ok (.iload_n 3, 1) := by decide +kernel
theorem dL_law_400 : decode mL_law.2.2.1 400 = .ok (.iconst 4, 1) := by decide +kernel
theorem dL_law_401 : decode mL_law.2.2.1 401 = .ok (.iadd, 1) := by decide +kernel
theorem dL_law_402 : decode mL_law.2.2.1 402 = .ok (.iaload, 1) := by decide +kernel
theorem dL_law_403 : decode mL_law.2.2.1 403 = .ok (.aload_n 0, 1) := by decide +kernel
theorem dL_law_404 : decode mL_law.2.2.1 404 = .ok (.iload_n 3, 1) := by decide +kernel
theorem dL_law_405 : decode mL_law.2.2.1 405 = .ok (.iconst 5, 1) := by decide +kernel
theorem dL_law_406 : decode mL_law.2.2.1 406 = .ok (.iadd, 1) := by decide +kernel
theorem dL_law_407 : decode mL_law.2.2.1 407 = .ok (.iaload, 1) := by decide +kernel
theorem dL_law_408 : decode mL_law.2.2.1 408 = .ok (.invokevirtual 49, 3) := by decide +kernel
theorem dL_law_411 : decode mL_law.2.2.1 411 = .ok (.if_icmp .eq 489, 3) := by decide +kernel
theorem dL_law_414 : decode mL_law.2.2.1 414 = .ok (.iconst 0, 1) := by decide +kernel
theorem dL_law_415 : decode mL_law.2.2.1 415 = .ok (.ireturn, 1) := by decide +kernel
theorem dL_law_416 : decode mL_law.2.2.1 416 = .ok (.aload_n 1, 1) := by decide +kernel
theorem dL_law_417 : decode mL_law.2.2.1 417 = .ok (.aload_n 0, 1) := by decide +kernel
theorem dL_law_418 : decode mL_law.2.2.1 418 = .ok (.iload_n 3, 1) := by decide +kernel
theorem dL_law_419 : decode mL_law.2.2.1 419 = .ok (.iconst 1, 1) := by decide +kernel
theorem dL_law_420 : decode mL_law.2.2.1 420 = .ok (.iadd, 1) := by decide +kernel
theorem dL_law_421 : decode mL_law.2.2.1 421 = .ok (.iaload, 1) := by decide +kernel
theorem dL_law_422 : decode mL_law.2.2.1 422 = .ok (.aload_n 0, 1) := by decide +kernel
theorem dL_law_423 : decode mL_law.2.2.1 423 = .ok (.iload_n 3, 1) := by decide +kernel
theorem dL_law_424 : decode mL_law.2.2.1 424 = .ok (.iconst 2, 1) := by decide +kernel
theorem dL_law_425 : decode mL_law.2.2.1 425 = .ok (.iadd, 1) := by decide +kernel
theorem dL_law_426 : decode mL_law.2.2.1 426 = .ok (.iaload, 1) := by decide +kernel
theorem dL_law_427 : decode mL_law.2.2.1 427 = .ok (.aload_n 0, 1) := by decide +kernel
theorem dL_law_428 : decode mL_law.2.2.1 428 = .ok (.iload_n 3, 1) := by decide +kernel
theorem dL_law_429 : decode mL_law.2.2.1 429 = .ok (.iconst 3, 1) := by decide +kernel
theorem dL_law_430 : decode mL_law.2.2.1 430 = .ok (.iadd, 1) := by decide +kernel
theorem dL_law_431 : decode mL_law.2.2.1 431 = .ok (.iaload, 1) := by decide +kernel
theorem dL_law_432 : decode mL_law.2.2.1 432 = .ok (.invokevirtual 50, 3) := by decide +kernel
theorem dL_law_435 : decode mL_law.2.2.1 435 = .ok (.aload_n 2, 1) := by decide +kernel
theorem dL_law_436 : decode mL_law.2.2.1 436 = .ok (.aload_n 0, 1) := by decide +kernel
theorem dL_law_437 : decode mL_law.2.2.1 437 = .ok (.iload_n 3, 1) := by decide +kernel
theorem dL_law_438 : decode mL_law.2.2.1 438 = .ok (.iconst 1, 1) := by decide +kernel
theorem dL_law_439 : decode mL_law.2.2.1 439 = .ok (.iadd, 1) := by decide +kernel
theorem dL_law_440 : decode mL_law.2.2.1 440 = .ok (.iaload, 1) := by decide +kernel
theorem dL_law_441 : decode mL_law.2.2.1 441 = .ok (.aload_n 0, 1) := by decide +kernel
theorem dL_law_442 : decode mL_law.2.2.1 442 = .ok (.iload_n 3, 1) := by decide +kernel
theorem dL_law_443 : decode mL_law.2.2.1 443 = .ok (.iconst 2, 1) := by decide +kernel
theorem dL_law_444 : decode mL_law.2.2.1 444 = .ok (.iadd, 1) := by decide +kernel
theorem dL_law_445 : decode mL_law.2.2.1 445 = .ok (.iaload, 1) := by decide +kernel
theorem dL_law_446 : decode mL_law.2.2.1 446 = .ok (.aload_n 0, 1) := by decide +kernel
theorem dL_law_447 : decode mL_law.2.2.1 447 = .ok (.iload_n 3, 1) := by decide +kernel
theorem dL_law_448 : decode mL_law.2.2.1 448 = .ok (.iconst 3, 1) := by decide +kernel
theorem dL_law_449 : decode mL_law.2.2.1 449 = .ok (.iadd, 1) := by decide +kernel
theorem dL_law_450 : decode mL_law.2.2.1 450 = .ok (.iaload, 1) := by decide +kernel
theorem dL_law_451 : decode mL_law.2.2.1 451 = .ok (.invokevirtual 54, 3) := by decide +kernel
theorem dL_law_454 : decode mL_law.2.2.1 454 = .ok (.if_icmp .eq 446, 3) := by decide +kernel
theorem dL_law_457 : decode mL_law.2.2.1 457 = .ok (.iconst 0, 1) := by decide +kernel
theorem dL_law_458 : decode mL_law.2.2.1 458 = .ok (.ireturn, 1) := by decide +kernel
theorem dL_law_459 : decode mL_law.2.2.1 459 = .ok (.aload_n 1, 1) := by decide +kernel
theorem dL_law_460 : decode mL_law.2.2.1 460 = .ok (.aload_n 0, 1) := by decide +kernel
theorem dL_law_461 : decode mL_law.2.2.1 461 = .ok (.iload_n 3, 1) := by decide +kernel
theorem dL_law_462 : decode mL_law.2.2.1 462 = .ok (.iconst 1, 1) := by decide +kernel
theorem dL_law_463 : decode mL_law.2.2.1 463 = .ok (.iadd, 1) := by decide +kernel
theorem dL_law_464 : decode mL_law.2.2.1 464 = .ok (.iaload, 1) := by decide +kernel
theorem dL_law_465 : decode mL_law.2.2.1 465 = .ok (.aload_n 0, 1) := by decide +kernel
theorem dL_law_466 : decode mL_law.2.2.1 466 = .ok (.iload_n 3, 1) := by decide +kernel
theorem dL_law_467 : decode mL_law.2.2.1 467 = .ok (.iconst 2, 1) := by decide +kernel
theorem dL_law_468 : decode mL_law.2.2.1 468 = .ok (.iadd, 1) := by decide +kernel
theorem dL_law_469 : decode mL_law.2.2.1 469 = .ok (.iaload, 1) := by decide +kernel
theorem dL_law_470 : decode mL_law.2.2.1 470 = .ok (.invokevirtual 55, 3) := by decide +kernel
theorem dL_law_473 : decode mL_law.2.2.1 473 = .ok (.aload_n 2, 1) := by decide +kernel
theorem dL_law_474 : decode mL_law.2.2.1 474 = .ok (.aload_n 0, 1) := by decide +kernel
theorem dL_law_475 : decode mL_law.2.2.1 475 = .ok (.iload_n 3, 1) := by decide +kernel
theorem dL_law_476 : decode mL_law.2.2.1 476 = .ok (.iconst 1, 1) := by decide +kernel
theorem dL_law_477 : decode mL_law.2.2.1 477 = .ok (.iadd, 1) := by decide +kernel
theorem dL_law_478 : decode mL_law.2.2.1 478 = .ok (.iaload, 1) := by decide +kernel
theorem dL_law_479 : decode mL_law.2.2.1 479 = .ok (.aload_n 0, 1) := by decide +kernel
theorem dL_law_480 : decode mL_law.2.2.1 480 = .ok (.iload_n 3, 1) := by decide +kernel
theorem dL_law_481 : decode mL_law.2.2.1 481 = .ok (.iconst 2, 1) := by decide +kernel
theorem dL_law_482 : decode mL_law.2.2.1 482 = .ok (.iadd, 1) := by decide +kernel
theorem dL_law_483 : decode mL_law.2.2.1 483 = .ok (.iaload, 1) := by decide +kernel
theorem dL_law_484 : decode mL_law.2.2.1 484 = .ok (.invokevirtual 58, 3) := by decide +kernel
theorem dL_law_487 : decode mL_law.2.2.1 487 = .ok (.if_icmp .eq 413, 3) := by decide +kernel
theorem dL_law_490 : decode mL_law.2.2.1 490 = .ok (.iconst 0, 1) := by decide +kernel
theorem dL_law_491 : decode mL_law.2.2.1 491 = .ok (.ireturn, 1) := by decide +kernel
theorem dL_law_492 : decode mL_law.2.2.1 492 = .ok (.aload_n 1, 1) := by decide +kernel
theorem dL_law_493 : decode mL_law.2.2.1 493 = .ok (.aload_n 0, 1) := by decide +kernel
theorem dL_law_494 : decode mL_law.2.2.1 494 = .ok (.iload_n 3, 1) := by decide +kernel
theorem dL_law_495 : decode mL_law.2.2.1 495 = .ok (.iconst 1, 1) := by decide +kernel
theorem dL_law_496 : decode mL_law.2.2.1 496 = .ok (.iadd, 1) := by decide +kernel
theorem dL_law_497 : decode mL_law.2.2.1 497 = .ok (.iaload, 1) := by decide +kernel
theorem dL_law_498 : decode mL_law.2.2.1 498 = .ok (.aload_n 0, 1) := by decide +kernel
theorem dL_law_499 : decode mL_law.2.2.1 499 = .ok (.iload_n 3, 1) := by decide +kernel
theorem dL_law_500 : decode mL_law.2.2.1 500 = .ok (.iconst 2, 1) := by decide +kernel
theorem dL_law_501 : decode mL_law.2.2.1 501 = .ok (.iadd, 1) := by decide +kernel
theorem dL_law_502 : decode mL_law.2.2.1 502 = .ok (.iaload, 1) := by decide +kernel
theorem dL_law_503 : decode mL_law.2.2.1 503 = .ok (.invokevirtual 59, 3) := by decide +kernel
theorem dL_law_506 : decode mL_law.2.2.1 506 = .ok (.aload_n 2, 1) := by decide +kernel
theorem dL_law_507 : decode mL_law.2.2.1 507 = .ok (.aload_n 0, 1) := by decide +kernel
theorem dL_law_508 : decode mL_law.2.2.1 508 = .ok (.iload_n 3, 1) := by decide +kernel
theorem dL_law_509 : decode mL_law.2.2.1 509 = .ok (.iconst 1, 1) := by decide +kernel
theorem dL_law_510 : decode mL_law.2.2.1 510 = .ok (.iadd, 1) := by decide +kernel
theorem dL_law_511 : decode mL_law.2.2.1 511 = .ok (.iaload, 1) := by decide +kernel
theorem dL_law_512 : decode mL_law.2.2.1 512 = .ok (.aload_n 0, 1) := by decide +kernel
theorem dL_law_513 : decode mL_law.2.2.1 513 = .ok (.iload_n 3, 1) := by decide +kernel
theorem dL_law_514 : decode mL_law.2.2.1 514 = .ok (.iconst 2, 1) := by decide +kernel
theorem dL_law_515 : decode mL_law.2.2.1 515 = .ok (.iadd, 1) := by decide +kernel
theorem dL_law_516 : decode mL_law.2.2.1 516 = .ok (.iaload, 1) := by decide +kernel
theorem dL_law_517 : decode mL_law.2.2.1 517 = .ok (.invokevirtual 62, 3) := by decide +kernel
theorem dL_law_520 : decode mL_law.2.2.1 520 = .ok (.if_icmp .eq 380, 3) := by decide +kernel
theorem dL_law_523 : decode mL_law.2.2.1 523 = .ok (.iconst 0, 1) := by decide +kernel
theorem dL_law_524 : decode mL_law.2.2.1 524 = .ok (.ireturn, 1) := by decide +kernel
theorem dL_law_525 : decode mL_law.2.2.1 525 = .ok (.aload_n 1, 1) := by decide +kernel
theorem dL_law_526 : decode mL_law.2.2.1 526 = .ok (.aload_n 0, 1) := by decide +kernel
theorem dL_law_527 : decode mL_law.2.2.1 527 = .ok (.iload_n 3, 1) := by decide +kernel
theorem dL_law_528 : decode mL_law.2.2.1 528 = .ok (.iconst 1, 1) := by decide +kernel
theorem dL_law_529 : decode mL_law.2.2.1 529 = .ok (.iadd, 1) := by decide +kernel
theorem dL_law_530 : decode mL_law.2.2.1 530 = .ok (.iaload, 1) := by decide +kernel
theorem dL_law_531 : decode mL_law.2.2.1 531 = .ok (.aload_n 0, 1) := by decide +kernel
theorem dL_law_532 : decode mL_law.2.2.1 532 = .ok (.iload_n 3, 1) := by decide +kernel
theorem dL_law_533 : decode mL_law.2.2.1 533 = .ok (.iconst 2, 1) := by decide +kernel
theorem dL_law_534 : decode mL_law.2.2.1 534 = .ok (.iadd, 1) := by decide +kernel
theorem dL_law_535 : decode mL_law.2.2.1 535 = .ok (.iaload, 1) := by decide +kernel
theorem dL_law_536 : decode mL_law.2.2.1 536 = .ok (.invokevirtual 63, 3) := by decide +kernel
theorem dL_law_539 : decode mL_law.2.2.1 539 = .ok (.aload_n 2, 1) := by decide +kernel
theorem dL_law_540 : decode mL_law.2.2.1 540 = .ok (.aload_n 0, 1) := by decide +kernel
theorem dL_law_541 : decode mL_law.2.2.1 541 = .ok (.iload_n 3, 1) := by decide +kernel
theorem dL_law_542 : decode mL_law.2.2.1 542 = .ok (.iconst 1, 1) := by decide +kernel
theorem dL_law_543 : decode mL_law.2.2.1 543 = .ok (.iadd, 1) := by decide +kernel
theorem dL_law_544 : decode mL_law.2.2.1 544 = .ok (.iaload, 1) := by decide +kernel
theorem dL_law_545 : decode mL_law.2.2.1 545 = .ok (.aload_n 0, 1) := by decide +kernel
theorem dL_law_546 : decode mL_law.2.2.1 546 = .ok (.iload_n 3, 1) := by decide +kernel
theorem dL_law_547 : decode mL_law.2.2.1 547 = .ok (.iconst 2, 1) := by decide +kernel
theorem dL_law_548 : decode mL_law.2.2.1 548 = .ok (.iadd, 1) := by decide +kernel
theorem dL_law_549 : decode mL_law.2.2.1 549 = .ok (.iaload, 1) := by decide +kernel
theorem dL_law_550 : decode mL_law.2.2.1 550 = .ok (.invokevirtual 66, 3) := by decide +kernel
theorem dL_law_553 : decode mL_law.2.2.1 553 = .ok (.if_icmp .eq 347, 3) := by decide +kernel
theorem dL_law_556 : decode mL_law.2.2.1 556 = .ok (.iconst 0, 1) := by decide +kernel
theorem dL_law_557 : decode mL_law.2.2.1 557 = .ok (.ireturn, 1) := by decide +kernel
theorem dL_law_558 : decode mL_law.2.2.1 558 = .ok (.aload_n 1, 1) := by decide +kernel
theorem dL_law_559 : decode mL_law.2.2.1 559 = .ok (.aload_n 0, 1) := by decide +kernel
theorem dL_law_560 : decode mL_law.2.2.1 560 = .ok (.iload_n 3, 1) := by decide +kernel
theorem dL_law_561 : decode mL_law.2.2.1 561 = .ok (.iconst 1, 1) := by decide +kernel
theorem dL_law_562 : decode mL_law.2.2.1 562 = .ok (.iadd, 1) := by decide +kernel
theorem dL_law_563 : decode mL_law.2.2.1 563 = .ok (.iaload, 1) := by decide +kernel
theorem dL_law_564 : decode mL_law.2.2.1 564 = .ok (.aload_n 0, 1) := by decide +kernel
theorem dL_law_565 : decode mL_law.2.2.1 565 = .ok (.iload_n 3, 1) := by decide +kernel
theorem dL_law_566 : decode mL_law.2.2.1 566 = .ok (.iconst 2, 1) := by decide +kernel
theorem dL_law_567 : decode mL_law.2.2.1 567 = .ok (.iadd, 1) := by decide +kernel
theorem dL_law_568 : decode mL_law.2.2.1 568 = .ok (.iaload, 1) := by decide +kernel
theorem dL_law_569 : decode mL_law.2.2.1 569 = .ok (.aload_n 0, 1) := by decide +kernel
theorem dL_law_570 : decode mL_law.2.2.1 570 = .ok (.iload_n 3, 1) := by decide +kernel
theorem dL_law_571 : decode mL_law.2.2.1 571 = .ok (.iconst 3, 1) := by decide +kernel
theorem dL_law_572 : decode mL_law.2.2.1 572 = .ok (.iadd, 1) := by decide +kernel
theorem dL_law_573 : decode mL_law.2.2.1 573 = .ok (.iaload, 1) := by decide +kernel
theorem dL_law_574 : decode mL_law.2.2.1 574 = .ok (.invokevirtual 67, 3) := by decide +kernel
theorem dL_law_577 : decode mL_law.2.2.1 577 = .ok (.aload_n 2, 1) := by decide +kernel
theorem dL_law_578 : decode mL_law.2.2.1 578 = .ok (.aload_n 0, 1) := by decide +kernel
theorem dL_law_579 : decode mL_law.2.2.1 579 = .ok (.iload_n 3, 1) := by decide +kernel
theorem dL_law_580 : decode mL_law.2.2.1 580 = .ok (.iconst 1, 1) := by decide +kernel
theorem dL_law_581 : decode mL_law.2.2.1 581 = .ok (.iadd, 1) := by decide +kernel
theorem dL_law_582 : decode mL_law.2.2.1 582 = .ok (.iaload, 1) := by decide +kernel
theorem dL_law_583 : decode mL_law.2.2.1 583 = .ok (.aload_n 0, 1) := by decide +kernel
theorem dL_law_584 : decode mL_law.2.2.1 584 = .ok (.iload_n 3, 1) := by decide +kernel
theorem dL_law_585 : decode mL_law.2.2.1 585 = .ok (.iconst 2, 1) := by decide +kernel
theorem dL_law_586 : decode mL_law.2.2.1 586 = .ok (.iadd, 1) := by decide +kernel
theorem dL_law_587 : decode mL_law.2.2.1 587 = .ok (.iaload, 1) := by decide +kernel
theorem dL_law_588 : decode mL_law.2.2.1 588 = .ok (.aload_n 0, 1) := by decide +kernel
theorem dL_law_589 : decode mL_law.2.2.1 589 = .ok (.iload_n 3, 1) := by decide +kernel
theorem dL_law_590 : decode mL_law.2.2.1 590 = .ok (.iconst 3, 1) := by decide +kernel
theorem dL_law_591 : decode mL_law.2.2.1 591 = .ok (.iadd, 1) := by decide +kernel
theorem dL_law_592 : decode mL_law.2.2.1 592 = .ok (.iaload, 1) := by decide +kernel
theorem dL_law_593 : decode mL_law.2.2.1 593 = .ok (.invokevirtual 70, 3) := by decide +kernel
theorem dL_law_596 : decode mL_law.2.2.1 596 = .ok (.if_icmp .eq 304, 3) := by decide +kernel
theorem dL_law_599 : decode mL_law.2.2.1 599 = .ok (.iconst 0, 1) := by decide +kernel
theorem dL_law_600 : decode mL_law.2.2.1 600 = .ok (.ireturn, 1) := by decide +kernel
theorem dL_law_601 : decode mL_law.2.2.1 601 = .ok (.aload_n 1, 1) := by decide +kernel
theorem dL_law_602 : decode mL_law.2.2.1 602 = .ok (.aload_n 0, 1) := by decide +kernel
theorem dL_law_603 : decode mL_law.2.2.1 603 = .ok (.iload_n 3, 1) := by decide +kernel
theorem dL_law_604 : decode mL_law.2.2.1 604 = .ok (.iconst 1, 1) := by decide +kernel
theorem dL_law_605 : decode mL_law.2.2.1 605 = .ok (.iadd, 1) := by decide +kernel
theorem dL_law_606 : decode mL_law.2.2.1 606 = .ok (.iaload, 1) := by decide +kernel
theorem dL_law_607 : decode mL_law.2.2.1 607 = .ok (.invokevirtual 71, 3) := by decide +kernel
theorem dL_law_610 : decode mL_law.2.2.1 610 = .ok (.aload_n 2, 1) := by decide +kernel
theorem dL_law_611 : decode mL_law.2.2.1 611 = .ok (.aload_n 0, 1) := by decide +kernel
theorem dL_law_612 : decode mL_law.2.2.1 612 = .ok (.iload_n 3, 1) := by decide +kernel
theorem dL_law_613 : decode mL_law.2.2.1 613 = .ok (.iconst 1, 1) := by decide +kernel
theorem dL_law_614 : decode mL_law.2.2.1 614 = .ok (.iadd, 1) := by decide +kernel
theorem dL_law_615 : decode mL_law.2.2.1 615 = .ok (.iaload, 1) := by decide +kernel
theorem dL_law_616 : decode mL_law.2.2.1 616 = .ok (.invokevirtual 74, 3) := by decide +kernel
theorem dL_law_619 : decode mL_law.2.2.1 619 = .ok (.if_icmp .eq 281, 3) := by decide +kernel
theorem dL_law_622 : decode mL_law.2.2.1 622 = .ok (.iconst 0, 1) := by decide +kernel
theorem dL_law_623 : decode mL_law.2.2.1 623 = .ok (.ireturn, 1) := by decide +kernel
theorem dL_law_624 : decode mL_law.2.2.1 624 = .ok (.aload_n 1, 1) := by decide +kernel
theorem dL_law_625 : decode mL_law.2.2.1 625 = .ok (.aload_n 0, 1) := by decide +kernel
theorem dL_law_626 : decode mL_law.2.2.1 626 = .ok (.iload_n 3, 1) := by decide +kernel
theorem dL_law_627 : decode mL_law.2.2.1 627 = .ok (.iconst 1, 1) := by decide +kernel
theorem dL_law_628 : decode mL_law.2.2.1 628 = .ok (.iadd, 1) := by decide +kernel
theorem dL_law_629 : decode mL_law.2.2.1 629 = .ok (.iaload, 1) := by decide +kernel
theorem dL_law_630 : decode mL_law.2.2.1 630 = .ok (.aload_n 0, 1) := by decide +kernel
theorem dL_law_631 : decode mL_law.2.2.1 631 = .ok (.iload_n 3, 1) := by decide +kernel
theorem dL_law_632 : decode mL_law.2.2.1 632 = .ok (.iconst 2, 1) := by decide +kernel
theorem dL_law_633 : decode mL_law.2.2.1 633 = .ok (.iadd, 1) := by decide +kernel
theorem dL_law_634 : decode mL_law.2.2.1 634 = .ok (.iaload, 1) := by decide +kernel
theorem dL_law_635 : decode mL_law.2.2.1 635 = .ok (.invokevirtual 75, 3) := by decide +kernel
theorem dL_law_638 : decode mL_law.2.2.1 638 = .ok (.aload_n 2, 1) := by decide +kernel
theorem dL_law_639 : decode mL_law.2.2.1 639 = .ok (.aload_n 0, 1) := by decide +kernel
theorem dL_law_640 : decode mL_law.2.2.1 640 = .ok (.iload_n 3, 1) := by decide +kernel
theorem dL_law_641 : decode mL_law.2.2.1 641 = .ok (.iconst 1, 1) := by decide +kernel
theorem dL_law_642 : decode mL_law.2.2.1 642 = .ok (.iadd, 1) := by decide +kernel
theorem dL_law_643 : decode mL_law.2.2.1 643 = .ok (.iaload, 1) := by decide +kernel
theorem dL_law_644 : decode mL_law.2.2.1 644 = .ok (.aload_n 0, 1) := by decide +kernel
theorem dL_law_645 : decode mL_law.2.2.1 645 = .ok (.iload_n 3, 1) := by decide +kernel
theorem dL_law_646 : decode mL_law.2.2.1 646 = .ok (.iconst 2, 1) := by decide +kernel
theorem dL_law_647 : decode mL_law.2.2.1 647 = .ok (.iadd, 1) := by decide +kernel
theorem dL_law_648 : decode mL_law.2.2.1 648 = .ok (.iaload, 1) := by decide +kernel
theorem dL_law_649 : decode mL_law.2.2.1 649 = .ok (.invokevirtual 78, 3) := by decide +kernel
theorem dL_law_652 : decode mL_law.2.2.1 652 = .ok (.if_icmp .eq 248, 3) := by decide +kernel
theorem dL_law_655 : decode mL_law.2.2.1 655 = .ok (.iconst 0, 1) := by decide +kernel
theorem dL_law_656 : decode mL_law.2.2.1 656 = .ok (.ireturn, 1) := by decide +kernel
theorem dL_law_657 : decode mL_law.2.2.1 657 = .ok (.aload_n 1, 1) := by decide +kernel
theorem dL_law_658 : decode mL_law.2.2.1 658 = .ok (.aload_n 0, 1) := by decide +kernel
theorem dL_law_659 : decode mL_law.2.2.1 659 = .ok (.iload_n 3, 1) := by decide +kernel
theorem dL_law_660 : decode mL_law.2.2.1 660 = .ok (.iconst 1, 1) := by decide +kernel
theorem dL_law_661 : decode mL_law.2.2.1 661 = .ok (.iadd, 1) := by decide +kernel
theorem dL_law_662 : decode mL_law.2.2.1 662 = .ok (.iaload, 1) := by decide +kernel
theorem dL_law_663 : decode mL_law.2.2.1 663 = .ok (.aload_n 0, 1) := by decide +kernel
theorem dL_law_664 : decode mL_law.2.2.1 664 = .ok (.iload_n 3, 1) := by decide +kernel
theorem dL_law_665 : decode mL_law.2.2.1 665 = .ok (.iconst 2, 1) := by decide +kernel
theorem dL_law_666 : decode mL_law.2.2.1 666 = .ok (.iadd, 1) := by decide +kernel
theorem dL_law_667 : decode mL_law.2.2.1 667 = .ok (.iaload, 1) := by decide +kernel
theorem dL_law_668 : decode mL_law.2.2.1 668 = .ok (.invokevirtual 79, 3) := by decide +kernel
theorem dL_law_671 : decode mL_law.2.2.1 671 = .ok (.aload_n 2, 1) := by decide +kernel
theorem dL_law_672 : decode mL_law.2.2.1 672 = .ok (.aload_n 0, 1) := by decide +kernel
theorem dL_law_673 : decode mL_law.2.2.1 673 = .ok (.iload_n 3, 1) := by decide +kernel
theorem dL_law_674 : decode mL_law.2.2.1 674 = .ok (.iconst 1, 1) := by decide +kernel
theorem dL_law_675 : decode mL_law.2.2.1 675 = .ok (.iadd, 1) := by decide +kernel
theorem dL_law_676 : decode mL_law.2.2.1 676 = .ok (.iaload, 1) := by decide +kernel
theorem dL_law_677 : decode mL_law.2.2.1 677 = .ok (.aload_n 0, 1) := by decide +kernel
theorem dL_law_678 : decode mL_law.2.2.1 678 = .ok (.iload_n 3, 1) := by decide +kernel
theorem dL_law_679 : decode mL_law.2.2.1 679 = .ok (.iconst 2, 1) := by decide +kernel
theorem dL_law_680 : decode mL_law.2.2.1 680 = .ok (.iadd, 1) := by decide +kernel
theorem dL_law_681 : decode mL_law.2.2.1 681 = .ok (.iaload, 1) := by decide +kernel
theorem dL_law_682 : decode mL_law.2.2.1 682 = .ok (.invokevirtual 82, 3) := by decide +kernel
theorem dL_law_685 : decode mL_law.2.2.1 685 = .ok (.if_icmp .eq 215, 3) := by decide +kernel
theorem dL_law_688 : decode mL_law.2.2.1 688 = .ok (.iconst 0, 1) := by decide +kernel
theorem dL_law_689 : decode mL_law.2.2.1 689 = .ok (.ireturn, 1) := by decide +kernel
theorem dL_law_690 : decode mL_law.2.2.1 690 = .ok (.aload_n 1, 1) := by decide +kernel
theorem dL_law_691 : decode mL_law.2.2.1 691 = .ok (.aload_n 0, 1) := by decide +kernel
theorem dL_law_692 : decode mL_law.2.2.1 692 = .ok (.iload_n 3, 1) := by decide +kernel
theorem dL_law_693 : decode mL_law.2.2.1 693 = .ok (.iconst 1, 1) := by decide +kernel
theorem dL_law_694 : decode mL_law.2.2.1 694 = .ok (.iadd, 1) := by decide +kernel
theorem dL_law_695 : decode mL_law.2.2.1 695 = .ok (.iaload, 1) := by decide +kernel
theorem dL_law_696 : decode mL_law.2.2.1 696 = .ok (.invokevirtual 83, 3) := by decide +kernel
theorem dL_law_699 : decode mL_law.2.2.1 699 = .ok (.aload_n 2, 1) := by decide +kernel
theorem dL_law_700 : decode mL_law.2.2.1 700 = .ok (.aload_n 0, 1) := by decide +kernel
theorem dL_law_701 : decode mL_law.2.2.1 701 = .ok (.iload_n 3, 1) := by decide +kernel
theorem dL_law_702 : decode mL_law.2.2.1 702 = .ok (.iconst 1, 1) := by decide +kernel
theorem dL_law_703 : decode mL_law.2.2.1 703 = .ok (.iadd, 1) := by decide +kernel
theorem dL_law_704 : decode mL_law.2.2.1 704 = .ok (.iaload, 1) := by decide +kernel
theorem dL_law_705 : decode mL_law.2.2.1 705 = .ok (.invokevirtual 86, 3) := by decide +kernel
theorem dL_law_708 : decode mL_law.2.2.1 708 = .ok (.if_icmp .eq 192, 3) := by decide +kernel
theorem dL_law_711 : decode mL_law.2.2.1 711 = .ok (.iconst 0, 1) := by decide +kernel
theorem dL_law_712 : decode mL_law.2.2.1 712 = .ok (.ireturn, 1) := by decide +kernel
theorem dL_law_713 : decode mL_law.2.2.1 713 = .ok (.aload_n 1, 1) := by decide +kernel
theorem dL_law_714 : decode mL_law.2.2.1 714 = .ok (.aload_n 0, 1) := by decide +kernel
theorem dL_law_715 : decode mL_law.2.2.1 715 = .ok (.iload_n 3, 1) := by decide +kernel
theorem dL_law_716 : decode mL_law.2.2.1 716 = .ok (.iconst 1, 1) := by decide +kernel
theorem dL_law_717 : decode mL_law.2.2.1 717 = .ok (.iadd, 1) := by decide +kernel
theorem dL_law_718 : decode mL_law.2.2.1 718 = .ok (.iaload, 1) := by decide +kernel
theorem dL_law_719 : decode mL_law.2.2.1 719 = .ok (.invokevirtual 87, 3) := by decide +kernel
theorem dL_law_722 : decode mL_law.2.2.1 722 = .ok (.aload_n 2, 1) := by decide +kernel
theorem dL_law_723 : decode mL_law.2.2.1 723 = .ok (.aload_n 0, 1) := by decide +kernel
theorem dL_law_724 : decode mL_law.2.2.1 724 = .ok (.iload_n 3, 1) := by decide +kernel
theorem dL_law_725 : decode mL_law.2.2.1 725 = .ok (.iconst 1, 1) := by decide +kernel
theorem dL_law_726 : decode mL_law.2.2.1 726 = .ok (.iadd, 1) := by decide +kernel
theorem dL_law_727 : decode mL_law.2.2.1 727 = .ok (.iaload, 1) := by decide +kernel
theorem dL_law_728 : decode mL_law.2.2.1 728 = .ok (.invokevirtual 90, 3) := by decide +kernel
theorem dL_law_731 : decode mL_law.2.2.1 731 = .ok (.if_icmp .eq 169, 3) := by decide +kernel
theorem dL_law_734 : decode mL_law.2.2.1 734 = .ok (.iconst 0, 1) := by decide +kernel
theorem dL_law_735 : decode mL_law.2.2.1 735 = .ok (.ireturn, 1) := by decide +kernel
theorem dL_law_736 : decode mL_law.2.2.1 736 = .ok (.aload_n 1, 1) := by decide +kernel
theorem dL_law_737 : decode mL_law.2.2.1 737 = .ok (.aload_n 0, 1) := by decide +kernel
theorem dL_law_738 : decode mL_law.2.2.1 738 = .ok (.iload_n 3, 1) := by decide +kernel
theorem dL_law_739 : decode mL_law.2.2.1 739 = .ok (.iconst 1, 1) := by decide +kernel
theorem dL_law_740 : decode mL_law.2.2.1 740 = .ok (.iadd, 1) := by decide +kernel
theorem dL_law_741 : decode mL_law.2.2.1 741 = .ok (.iaload, 1) := by decide +kernel
theorem dL_law_742 : decode mL_law.2.2.1 742 = .ok (.invokevirtual 91, 3) := by decide +kernel
theorem dL_law_745 : decode mL_law.2.2.1 745 = .ok (.aload_n 2, 1) := by decide +kernel
theorem dL_law_746 : decode mL_law.2.2.1 746 = .ok (.aload_n 0, 1) := by decide +kernel
theorem dL_law_747 : decode mL_law.2.2.1 747 = .ok (.iload_n 3, 1) := by decide +kernel
theorem dL_law_748 : decode mL_law.2.2.1 748 = .ok (.iconst 1, 1) := by decide +kernel
theorem dL_law_749 : decode mL_law.2.2.1 749 = .ok (.iadd, 1) := by decide +kernel
theorem dL_law_750 : decode mL_law.2.2.1 750 = .ok (.iaload, 1) := by decide +kernel
theorem dL_law_751 : decode mL_law.2.2.1 751 = .ok (.invokevirtual 94, 3) := by decide +kernel
theorem dL_law_754 : decode mL_law.2.2.1 754 = .ok (.if_icmp .eq 146, 3) := by decide +kernel
theorem dL_law_757 : decode mL_law.2.2.1 757 = .ok (.iconst 0, 1) := by decide +kernel
theorem dL_law_758 : decode mL_law.2.2.1 758 = .ok (.ireturn, 1) := by decide +kernel
theorem dL_law_759 : decode mL_law.2.2.1 759 = .ok (.aload_n 1, 1) := by decide +kernel
theorem dL_law_760 : decode mL_law.2.2.1 760 = .ok (.aload_n 0, 1) := by decide +kernel
theorem dL_law_761 : decode mL_law.2.2.1 761 = .ok (.iload_n 3, 1) := by decide +kernel
theorem dL_law_762 : decode mL_law.2.2.1 762 = .ok (.iconst 1, 1) := by decide +kernel
theorem dL_law_763 : decode mL_law.2.2.1 763 = .ok (.iadd, 1) := by decide +kernel
theorem dL_law_764 : decode mL_law.2.2.1 764 = .ok (.iaload, 1) := by decide +kernel
theorem dL_law_765 : decode mL_law.2.2.1 765 = .ok (.aload_n 0, 1) := by decide +kernel
theorem dL_law_766 : decode mL_law.2.2.1 766 = .ok (.iload_n 3, 1) := by decide +kernel
theorem dL_law_767 : decode mL_law.2.2.1 767 = .ok (.iconst 2, 1) := by decide +kernel
theorem dL_law_768 : decode mL_law.2.2.1 768 = .ok (.iadd, 1) := by decide +kernel
theorem dL_law_769 : decode mL_law.2.2.1 769 = .ok (.iaload, 1) := by decide +kernel
theorem dL_law_770 : decode mL_law.2.2.1 770 = .ok (.invokevirtual 95, 3) := by decide +kernel
theorem dL_law_773 : decode mL_law.2.2.1 773 = .ok (.aload_n 2, 1) := by decide +kernel
theorem dL_law_774 : decode mL_law.2.2.1 774 = .ok (.aload_n 0, 1) := by decide +kernel
theorem dL_law_775 : decode mL_law.2.2.1 775 = .ok (.iload_n 3, 1) := by decide +kernel
theorem dL_law_776 : decode mL_law.2.2.1 776 = .ok (.iconst 1, 1) := by decide +kernel
theorem dL_law_777 : decode mL_law.2.2.1 777 = .ok (.iadd, 1) := by decide +kernel
theorem dL_law_778 : decode mL_law.2.2.1 778 = .ok (.iaload, 1) := by decide +kernel
theorem dL_law_779 : decode mL_law.2.2.1 779 = .ok (.aload_n 0, 1) := by decide +kernel
theorem dL_law_780 : decode mL_law.2.2.1 780 = .ok (.iload_n 3, 1) := by decide +kernel
theorem dL_law_781 : decode mL_law.2.2.1 781 = .ok (.iconst 2, 1) := by decide +kernel
theorem dL_law_782 : decode mL_law.2.2.1 782 = .ok (.iadd, 1) := by decide +kernel
theorem dL_law_783 : decode mL_law.2.2.1 783 = .ok (.iaload, 1) := by decide +kernel
theorem dL_law_784 : decode mL_law.2.2.1 784 = .ok (.invokevirtual 98, 3) := by decide +kernel
theorem dL_law_787 : decode mL_law.2.2.1 787 = .ok (.if_icmp .eq 113, 3) := by decide +kernel
theorem dL_law_790 : decode mL_law.2.2.1 790 = .ok (.iconst 0, 1) := by decide +kernel
theorem dL_law_791 : decode mL_law.2.2.1 791 = .ok (.ireturn, 1) := by decide +kernel
theorem dL_law_792 : decode mL_law.2.2.1 792 = .ok (.aload_n 1, 1) := by decide +kernel
theorem dL_law_793 : decode mL_law.2.2.1 793 = .ok (.aload_n 0, 1) := by decide +kernel
theorem dL_law_794 : decode mL_law.2.2.1 794 = .ok (.iload_n 3, 1) := by decide +kernel
theorem dL_law_795 : decode mL_law.2.2.1 795 = .ok (.iconst 1, 1) := by decide +kernel
theorem dL_law_796 : decode mL_law.2.2.1 796 = .ok (.iadd, 1) := by decide +kernel
theorem dL_law_797 : decode mL_law.2.2.1 797 = .ok (.iaload, 1) := by decide +kernel
theorem dL_law_798 : decode mL_law.2.2.1 798 = .ok (.invokevirtual 99, 3) := by decide +kernel
theorem dL_law_801 : decode mL_law.2.2.1 801 = .ok (.aload_n 2, 1) := by decide +kernel
theorem dL_law_802 : decode mL_law.2.2.1 802 = .ok (.aload_n 0, 1) := by decide +kernel
theorem dL_law_803 : decode mL_law.2.2.1 803 = .ok (.iload_n 3, 1) := by decide +kernel
theorem dL_law_804 : decode mL_law.2.2.1 804 = .ok (.iconst 1, 1) := by decide +kernel
theorem dL_law_805 : decode mL_law.2.2.1 805 = .ok (.iadd, 1) := by decide +kernel
theorem dL_law_806 : decode mL_law.2.2.1 806 = .ok (.iaload, 1) := by decide +kernel
theorem dL_law_807 : decode mL_law.2.2.1 807 = .ok (.invokevirtual 102, 3) := by decide +kernel
theorem dL_law_810 : decode mL_law.2.2.1 810 = .ok (.if_icmp .eq 90, 3) := by decide +kernel
theorem dL_law_813 : decode mL_law.2.2.1 813 = .ok (.iconst 0, 1) := by decide +kernel
theorem dL_law_814 : decode mL_law.2.2.1 814 = .ok (.ireturn, 1) := by decide +kernel
theorem dL_law_815 : decode mL_law.2.2.1 815 = .ok (.aload_n 1, 1) := by decide +kernel
theorem dL_law_816 : decode mL_law.2.2.1 816 = .ok (.invokevirtual 103, 3) := by decide +kernel
theorem dL_law_819 : decode mL_law.2.2.1 819 = .ok (.aload_n 2, 1) := by decide +kernel
theorem dL_law_820 : decode mL_law.2.2.1 820 = .ok (.invokevirtual 106, 3) := by decide +kernel
theorem dL_law_823 : decode mL_law.2.2.1 823 = .ok (.if_icmp .eq 77, 3) := by decide +kernel
theorem dL_law_826 : decode mL_law.2.2.1 826 = .ok (.iconst 0, 1) := by decide +kernel
theorem dL_law_827 : decode mL_law.2.2.1 827 = .ok (.ireturn, 1) := by decide +kernel
theorem dL_law_828 : decode mL_law.2.2.1 828 = .ok (.aload_n 1, 1) := by decide +kernel
theorem dL_law_829 : decode mL_law.2.2.1 829 = .ok (.aload_n 0, 1) := by decide +kernel
theorem dL_law_830 : decode mL_law.2.2.1 830 = .ok (.iload_n 3, 1) := by decide +kernel
theorem dL_law_831 : decode mL_law.2.2.1 831 = .ok (.iconst 1, 1) := by decide +kernel
theorem dL_law_832 : decode mL_law.2.2.1 832 = .ok (.iadd, 1) := by decide +kernel
theorem dL_law_833 : decode mL_law.2.2.1 833 = .ok (.iaload, 1) := by decide +kernel
theorem dL_law_834 : decode mL_law.2.2.1 834 = .ok (.invokevirtual 107, 3) := by decide +kernel
theorem dL_law_837 : decode mL_law.2.2.1 837 = .ok (.aload_n 2, 1) := by decide +kernel
theorem dL_law_838 : decode mL_law.2.2.1 838 = .ok (.aload_n 0, 1) := by decide +kernel
theorem dL_law_839 : decode mL_law.2.2.1 839 = .ok (.iload_n 3, 1) := by decide +kernel
theorem dL_law_840 : decode mL_law.2.2.1 840 = .ok (.iconst 1, 1) := by decide +kernel
theorem dL_law_841 : decode mL_law.2.2.1 841 = .ok (.iadd, 1) := by decide +kernel
theorem dL_law_842 : decode mL_law.2.2.1 842 = .ok (.iaload, 1) := by decide +kernel
theorem dL_law_843 : decode mL_law.2.2.1 843 = .ok (.invokevirtual 110, 3) := by decide +kernel
theorem dL_law_846 : decode mL_law.2.2.1 846 = .ok (.if_icmp .eq 54, 3) := by decide +kernel
theorem dL_law_849 : decode mL_law.2.2.1 849 = .ok (.iconst 0, 1) := by decide +kernel
theorem dL_law_850 : decode mL_law.2.2.1 850 = .ok (.ireturn, 1) := by decide +kernel
theorem dL_law_851 : decode mL_law.2.2.1 851 = .ok (.aload_n 1, 1) := by decide +kernel
theorem dL_law_852 : decode mL_law.2.2.1 852 = .ok (.invokevirtual 111, 3) := by decide +kernel
theorem dL_law_855 : decode mL_law.2.2.1 855 = .ok (.aload_n 2, 1) := by decide +kernel
theorem dL_law_856 : decode mL_law.2.2.1 856 = .ok (.invokevirtual 114, 3) := by decide +kernel
theorem dL_law_859 : decode mL_law.2.2.1 859 = .ok (.if_icmp .eq 41, 3) := by decide +kernel
theorem dL_law_862 : decode mL_law.2.2.1 862 = .ok (.iconst 0, 1) := by decide +kernel
theorem dL_law_863 : decode mL_law.2.2.1 863 = .ok (.ireturn, 1) := by decide +kernel
theorem dL_law_864 : decode mL_law.2.2.1 864 = .ok (.aload_n 1, 1) := by decide +kernel
theorem dL_law_865 : decode mL_law.2.2.1 865 = .ok (.aload_n 0, 1) := by decide +kernel
theorem dL_law_866 : decode mL_law.2.2.1 866 = .ok (.iload_n 3, 1) := by decide +kernel
theorem dL_law_867 : decode mL_law.2.2.1 867 = .ok (.iconst 1, 1) := by decide +kernel
theorem dL_law_868 : decode mL_law.2.2.1 868 = .ok (.iadd, 1) := by decide +kernel
theorem dL_law_869 : decode mL_law.2.2.1 869 = .ok (.iaload, 1) := by decide +kernel
theorem dL_law_870 : decode mL_law.2.2.1 870 = .ok (.invokevirtual 115, 3) := by decide +kernel
theorem dL_law_873 : decode mL_law.2.2.1 873 = .ok (.aload_n 2, 1) := by decide +kernel
theorem dL_law_874 : decode mL_law.2.2.1 874 = .ok (.aload_n 0, 1) := by decide +kernel
theorem dL_law_875 : decode mL_law.2.2.1 875 = .ok (.iload_n 3, 1) := by decide +kernel
theorem dL_law_876 : decode mL_law.2.2.1 876 = .ok (.iconst 1, 1) := by decide +kernel
theorem dL_law_877 : decode mL_law.2.2.1 877 = .ok (.iadd, 1) := by decide +kernel
theorem dL_law_878 : decode mL_law.2.2.1 878 = .ok (.iaload, 1) := by decide +kernel
theorem dL_law_879 : decode mL_law.2.2.1 879 = .ok (.invokevirtual 118, 3) := by decide +kernel
theorem dL_law_882 : decode mL_law.2.2.1 882 = .ok (.if_icmp .eq 18, 3) := by decide +kernel
theorem dL_law_885 : decode mL_law.2.2.1 885 = .ok (.iconst 0, 1) := by decide +kernel
theorem dL_law_886 : decode mL_law.2.2.1 886 = .ok (.ireturn, 1) := by decide +kernel
theorem dL_law_887 : decode mL_law.2.2.1 887 = .ok (.aload_n 1, 1) := by decide +kernel
theorem dL_law_888 : decode mL_law.2.2.1 888 = .ok (.invokevirtual 119, 3) := by decide +kernel
theorem dL_law_891 : decode mL_law.2.2.1 891 = .ok (.aload_n 2, 1) := by decide +kernel
theorem dL_law_892 : decode mL_law.2.2.1 892 = .ok (.invokevirtual 122, 3) := by decide +kernel
theorem dL_law_895 : decode mL_law.2.2.1 895 = .ok (.if_icmp .eq 5, 3) := by decide +kernel
theorem dL_law_898 : decode mL_law.2.2.1 898 = .ok (.iconst 0, 1) := by decide +kernel
theorem dL_law_899 : decode mL_law.2.2.1 899 = .ok (.ireturn, 1) := by decide +kernel
theorem dL_law_900 : decode mL_law.2.2.1 900 = .ok (.iinc 3 6, 3) := by decide +kernel
theorem dL_law_903 : decode mL_law.2.2.1 903 = .ok (.goto (-885), 3) := by decide +kernel
theorem dL_law_906 : decode mL_law.2.2.1 906 = .ok (.iconst 1, 1) := by decide +kernel
theorem dL_law_907 : decode mL_law.2.2.1 907 = .ok (.ireturn, 1) := by decide +kernel
end
section
/-! THE MINI MACHINE: a world is S = (the first free address, the kind of each cell, its references) and I, its ints. -/
def mw_nestQ : Cond → Bool
  | .methodLinkNest _ _ _ _ => true
  | _ => false
def mw_all : List Cond := lw_tbl.filter goodWord
def mw_nest : List Cond := tables_1.filter mw_nestQ
theorem mw_in {w : Cond} (i : Nat) (h : lw_tbl[i]? = some w) (hg : goodWord w = true) : w ∈ mw_all := List.mem_filter.mpr ⟨List.mem_of_getElem? h, hg⟩
theorem mw_inN {w : Cond} (i : Nat) (h : tables_1[i]? = some w) (hg : mw_nestQ w = true) : w ∈ mw_nest := List.mem_filter.mpr ⟨List.mem_of_getElem? h, hg⟩
theorem mw_ws (ws : List Cond) (ps : List Nat) (hp : ws = ps.filterMap (fun i => lw_tbl[i]?)) (h : ws.all goodWord = true) : ∀ w ∈ ws, w ∈ mw_all := by
  intro w hw
  have h1 := List.all_eq_true.mp h w hw
  rw [hp] at hw
  obtain ⟨i, -, hi⟩ := List.mem_filterMap.mp hw
  exact mw_in i hi h1
theorem mw_good {w : Cond} (h : w ∈ mw_all) : ((w.onTables && w.keeps) = true ∨ ∃ ty, w = .arrayClass ty) := good_of_word (List.mem_filter.mp h).2
theorem mw_goodIn {y : MethodName} {b : ByteArray} {n : Nat} {r : Option FieldType} (h : Cond.code y b n r ∈ mw_all) : GoodIn mw_all (.code y b n r :: mw_all) := by
  intro w hw
  rcases List.mem_cons.mp hw with rfl | h2
  · exact ⟨h, mw_good h⟩
  · exact ⟨h2, mw_good h2⟩
-- the classes of the worlds
def mm_cR : Nat → String := fun c => match c with
  | 0 => RX0 | 1 => RX1 | 2 => RX2 | 3 => RX3 | 4 => RX4 | 5 => RX5 | 6 => RX6 | 7 => RX7 | _ => RX8
def mm_cT : Nat → u_T := fun c => match c with
  | 0 => TX0 | 1 => TX1 | 2 => TX2 | 3 => TX3 | 4 => TX4 | 5 => TX5 | 6 => TX6 | 7 => TX7 | _ => TX8
def mm_cy : Nat → Nat → FieldType := fun c => match c with
  | 0 => tyX0 | 1 => tyX1 | 2 => tyX2 | 3 => tyX3 | 4 => tyX4 | 5 => tyX5 | 6 => tyX6 | 7 => tyX7 | _ => tyX8
def mm_cn : Nat → Nat := fun c => match c with
  | 0 => 3 | 1 => 2 | 2 => 12 | 3 => 3 | 4 => 8 | 5 => 5 | 6 => 5 | 7 => 4 | _ => 16
def mm_int (c k : Nat) : Bool := match mm_cy c k with
  | .int => true
  | .boolean => true
  | _ => false
theorem mm_c9 {p : Nat → Prop} (h0 : p 0) (h1 : p 1) (h2 : p 2) (h3 : p 3) (h4 : p 4) (h5 : p 5) (h6 : p 6) (h7 : p 7) (h8 : p 8) : ∀ c, c < 9 → p c := by
  intro c hc
  rcases (show c = 0 ∨ c = 1 ∨ c = 2 ∨ c = 3 ∨ c = 4 ∨ c = 5 ∨ c = 6 ∨ c = 7 ∨ c = 8 by omega) with rfl | rfl | rfl | rfl | rfl | rfl | rfl | rfl | rfl <;> assumption
theorem mm_ccl : ∀ c, c < 9 → vwCl[c]? = some (mm_cR c, mm_cT c, mm_cn c) := mm_c9 rfl rfl rfl rfl rfl rfl rfl rfl rfl
theorem mm_cty : ∀ c, c < 9 → ∀ k, k < mm_cn c → parseFieldDescriptor (mm_cT c k).2.2.1 = some (mm_cy c k) := mm_c9 tyX0_ok tyX1_ok tyX2_ok tyX3_ok tyX4_ok tyX5_ok tyX6_ok tyX7_ok tyX8_ok
theorem mm_cnm : ∀ c, c < 9 → ∀ a, a < mm_cn c → ∀ b, b < mm_cn c → a ≠ b → (mm_cT c a).2.1 ≠ (mm_cT c b).2.1 := mm_c9 nmX0 nmX1 nmX2 nmX3 nmX4 nmX5 nmX6 nmX7 nmX8

theorem mm_cw0 : ∀ w ∈ u_ws RX0 TX0 3, w ∈ mw_all := mw_ws _ [89, 91, 93] (by decide +kernel) (by decide +kernel)
theorem mm_cw1 : ∀ w ∈ u_ws RX1 TX1 2, w ∈ mw_all := mw_ws _ [70, 72] (by decide +kernel) (by decide +kernel)
theorem mm_cw2 : ∀ w ∈ u_ws RX2 TX2 12, w ∈ mw_all := mw_ws _ [146, 148, 150, 152, 154, 156, 158, 160, 162, 164, 166, 168] (by decide +kernel) (by decide +kernel)
theorem mm_cw3 : ∀ w ∈ u_ws RX3 TX3 3, w ∈ mw_all := mw_ws _ [184, 186, 188] (by decide +kernel) (by decide +kernel)
theorem mm_cw4 : ∀ w ∈ u_ws RX4 TX4 8, w ∈ mw_all := mw_ws _ [116, 118, 120, 122, 124, 126, 128, 130] (by decide +kernel) (by decide +kernel)
theorem mm_cw5 : ∀ w ∈ u_ws RX5 TX5 5, w ∈ mw_all := mw_ws _ [206, 208, 210, 212, 214] (by decide +kernel) (by decide +kernel)
theorem mm_cw6 : ∀ w ∈ u_ws RX6 TX6 5, w ∈ mw_all := mw_ws _ [235, 237, 239, 241, 243] (by decide +kernel) (by decide +kernel)
theorem mm_cw7 : ∀ w ∈ u_ws RX7 TX7 4, w ∈ mw_all := mw_ws _ [250, 252, 254, 256] (by decide +kernel) (by decide +kernel)
theorem mm_cw8 : ∀ w ∈ u_ws RX8 TX8 16, w ∈ mw_all := mw_ws _ [719, 721, 723, 725, 727, 729, 731, 733, 735, 737, 739, 741, 743, 745, 747, 749] (by decide +kernel) (by decide +kernel)
theorem mm_cw : ∀ c, c < 9 → ∀ w ∈ u_ws (mm_cR c) (mm_cT c) (mm_cn c), w ∈ mw_all := mm_c9 mm_cw0 mm_cw1 mm_cw2 mm_cw3 mm_cw4 mm_cw5 mm_cw6 mm_cw7 mm_cw8
-- a method: its class, name, code, locals, return, and how deep its calls go
abbrev mm_S : Type := Nat × (Nat → Nat × Nat) × (Nat → Nat → Option Nat)
abbrev mm_I : Type := Nat → Nat → Int32
/-- a field's value -/
def mm_fv (S : mm_S) (I : mm_I) (a c k : Nat) : Value := if mm_int c k = true then .int (I a k) else va_rf (S.2.2 a k)
/-- a cell: kinds 0 to 8 are objects, 9 an int array, 10 an array of lots, 11 of estates -/
def mm_e (cA : Nat → ClassId) (S : mm_S) (I : mm_I) (a : Nat) : va_E :=
  if (S.2.1 a).1 < 9 then .inr ((S.2.1 a).1, (List.range (mm_cn (S.2.1 a).1)).map (fun k => mm_fv S I a (S.2.1 a).1 k))
  else if (S.2.1 a).1 = 9 then .inl (cA 0, (S.2.1 a).2, .inl (I a))
  else .inl (cA ((S.2.1 a).1 - 9), (S.2.1 a).2, .inr (.inr (.inr (.inr (S.2.2 a)))))
def mm_w (cA : Nat → ClassId) (z : Nat) (S : mm_S) (I : mm_I) : va_W := (List.range (S.1 - z)).map (fun k => (z + k, mm_e cA S I (z + k)))
def mm_R (D : va_G) (cA : Nat → ClassId) (z : Nat) (S : mm_S) (I : mm_I) (H : Heap) : Prop :=
  va_P D vwCl (mm_w cA z S I) H ∧ H.size = S.1 ∧ z ≤ S.1 ∧ (∀ a, (S.2.1 a).1 < 12 → z ≤ a ∧ a < S.1) ∧ ∀ a, S.1 ≤ a → ∀ j, I a j = 0 ∧ S.2.2 a j = none
theorem mm_w_at {cA : Nat → ClassId} {z : Nat} {S : mm_S} {I : mm_I} {a : Nat} (h1 : z ≤ a) (h2 : a < S.1) : (mm_w cA z S I)[a - z]? = some (a, mm_e cA S I a) := by
  unfold mm_w
  rw [List.getElem?_map, List.getElem?_range (by omega)]
  simp [show z + (a - z) = a by omega]
theorem mm_w_D {cA : Nat → ClassId} {z : Nat} {S : mm_S} {I : mm_I} : va_D (fun q => z ≤ q) (mm_w cA z S I) := by
  have key : ∀ (i : Nat) (x : Nat × va_E), (mm_w cA z S I)[i]? = some x → x.1 = z + i := by
    intro i x hx
    unfold mm_w at hx
    rw [List.getElem?_map] at hx
    cases hr : (List.range (S.1 - z))[i]? with
    | none => rw [hr] at hx; simp at hx
    | some j =>
      rw [hr] at hx
      have hj : j = i := by
        have := List.getElem?_eq_some_iff.mp hr
        obtain ⟨h1, h2⟩ := this
        simpa using h2.symm
      subst hj
      simp at hx
      rw [← hx]
  refine ⟨fun i j x y hi hj hxy => ?_, fun k q hk => ?_⟩
  · have h1 := key i x hi
    have h2 := key j y hj
    omega
  · have h1 := key k q hk
    show z ≤ q.1
    omega
theorem mm_w_set {cA : Nat → ClassId} {z a : Nat} {S S' : mm_S} {I I' : mm_I} {x : va_E} (h1 : z ≤ a) (h2 : a < S.1) (hS : S'.1 = S.1) (hx : mm_e cA S' I' a = x) (ho : ∀ b, b ≠ a → mm_e cA S' I' b = mm_e cA S I b) : (mm_w cA z S I).set (a - z) (a, x) = mm_w cA z S' I' := by
  apply List.ext_getElem?
  intro i
  by_cases hi : i = a - z
  · subst hi
    rw [List.getElem?_set_self (by simp [mm_w]; omega), mm_w_at h1 (by rw [hS]; exact h2), hx]
  · rw [List.getElem?_set_ne (Ne.symm hi)]
    unfold mm_w
    rw [List.getElem?_map, List.getElem?_map, hS]
    cases hr : (List.range (S.1 - z))[i]? with
    | none => rfl
    | some j =>
      have hj : j = i := by
        obtain ⟨h3, h4⟩ := List.getElem?_eq_some_iff.mp hr
        simpa using h4.symm
      subst hj
      simp only [Option.map_some]
      rw [ho (z + j) (by omega)]
theorem mm_w_app {cA : Nat → ClassId} {z : Nat} {S S' : mm_S} {I : mm_I} {x : va_E} (hz : z ≤ S.1) (hS : S'.1 = S.1 + 1) (hx : mm_e cA S' I S.1 = x) (ho : ∀ b, b < S.1 → mm_e cA S' I b = mm_e cA S I b) : mm_w cA z S I ++ [(S.1, x)] = mm_w cA z S' I := by
  unfold mm_w
  rw [hS, show S.1 + 1 - z = (S.1 - z) + 1 by omega, List.range_succ, List.map_append]
  congr 1
  · apply List.map_congr_left
    intro k hk
    have := List.mem_range.mp hk
    rw [ho _ (by omega)]
  · simp [show z + (S.1 - z) = S.1 by omega, hx]
theorem mm_R.lt {D : va_G} {cA : Nat → ClassId} {z : Nat} {S : mm_S} {I : mm_I} {H : Heap} (h : mm_R D cA z S I H) {a : Nat} (ha : (S.2.1 a).1 < 12) : z ≤ a ∧ a < S.1 := h.2.2.2.1 a ha
theorem mm_R.at {D : va_G} {cA : Nat → ClassId} {z : Nat} {S : mm_S} {I : mm_I} {H : Heap} (h : mm_R D cA z S I H) {a : Nat} (ha : (S.2.1 a).1 < 12) : (mm_w cA z S I)[a - z]? = some (a, mm_e cA S I a) := mm_w_at (h.lt ha).1 (h.lt ha).2
/-- an int written -/
def mm_wr (I : mm_I) (a k : Nat) (x : Int32) : mm_I := fun b j => if b = a ∧ j = k then x else I b j
def mm_wp (P : Nat → Nat → Option Nat) (a k : Nat) (x : Option Nat) : Nat → Nat → Option Nat := fun b j => if b = a ∧ j = k then x else P b j
theorem mm_wr_s {I : mm_I} {a k : Nat} {x : Int32} : mm_wr I a k x a k = x := by simp [mm_wr]
theorem mm_wr_a {I : mm_I} {a k b j : Nat} {x : Int32} (h : b ≠ a) : mm_wr I a k x b j = I b j := by simp [mm_wr, h]
theorem mm_wr_k {I : mm_I} {a k b j : Nat} {x : Int32} (h : j ≠ k) : mm_wr I a k x b j = I b j := by simp [mm_wr, h]
theorem mm_wr_row {I : mm_I} {a k b : Nat} {x : Int32} (h : b ≠ a) : mm_wr I a k x b = I b := by funext j; exact mm_wr_a h
theorem mm_wr_upd {I : mm_I} {a k : Nat} {x : Int32} : mm_wr I a k x a = upd (I a) k x := by
  funext j
  by_cases h : j = k <;> simp [mm_wr, upd, h]
theorem mm_e_I {cA : Nat → ClassId} {S : mm_S} {I I' : mm_I} {b : Nat} (h : I' b = I b) : mm_e cA S I' b = mm_e cA S I b := by
  unfold mm_e mm_fv
  rw [h]
theorem mm_e_obj {cA : Nat → ClassId} {S : mm_S} {I : mm_I} {a c : Nat} (ha : (S.2.1 a).1 = c) (hc : c < 9) : mm_e cA S I a = .inr (c, (List.range (mm_cn c)).map (fun k => mm_fv S I a c k)) := by
  unfold mm_e
  rw [ha, if_pos hc]
theorem mm_e_int {cA : Nat → ClassId} {S : mm_S} {I : mm_I} {a n : Nat} (ha : S.2.1 a = (9, n)) : mm_e cA S I a = .inl (cA 0, n, .inl (I a)) := by
  unfold mm_e
  rw [ha]
  rfl
theorem mm_e_ref {cA : Nat → ClassId} {S : mm_S} {I : mm_I} {a n t : Nat} (ha : S.2.1 a = (t + 10, n)) : mm_e cA S I a = .inl (cA (t + 1), n, .inr (.inr (.inr (.inr (S.2.2 a))))) := by
  unfold mm_e
  rw [ha]
  rw [if_neg (by show ¬ t + 10 < 9; omega), if_neg (by show ¬ t + 10 = 9; omega)]
  rfl
-- the tables, at any state of the run
def mm_K (D : va_G) (cA : Nat → ClassId) (U : State) : Prop := va_K D vwCl [(cA 0, .int), (cA 1, .object RX4), (cA 2, .object RX2)] U ∧ (∀ w ∈ mw_nest, va_Nw w U) ∧ va_AO RX4 U ∧ va_AO RX2 U
theorem mw_nest_is {w : Cond} (h : w ∈ mw_nest) : ∃ a i x b, w = .methodLinkNest a i x b := by
  have h2 := (List.mem_filter.mp h).2
  unfold mw_nestQ at h2
  split at h2
  · exact ⟨_, _, _, _, rfl⟩
  · cases h2
theorem mm_K.moved {D : va_G} {cA : Nat → ClassId} {s U : State} (hW : s.WarmedH U.vm) (h : mm_K D cA s) : mm_K D cA U := by
  obtain ⟨h1, h2, h3, h4⟩ := h
  refine ⟨va_K.moved hW.alike h1, fun w hw => ?_, va_AO.moved hW.alike h3, va_AO.moved hW.alike h4⟩
  obtain ⟨a, i, x, b, rfl⟩ := mw_nest_is hw
  exact va_Nw.warmM hW (h2 _ hw)
theorem mm_K.calling {D : va_G} {cA : Nat → ClassId} {U : State} {g : JFrame} {mk : MethodId} {a : Array Value} (h : mm_K D cA U) : mm_K D cA (U.calling g mk a) := by
  obtain ⟨h1, h2, h3, h4⟩ := h
  refine ⟨va_K.moved (u := U) (U := U.calling g mk a) (Vm.Alike.refl U.vm) h1, fun w hw => ?_, va_AO.moved (u := U) (U := U.calling g mk a) (Vm.Alike.refl U.vm) h3, va_AO.moved (u := U) (U := U.calling g mk a) (Vm.Alike.refl U.vm) h4⟩
  obtain ⟨a', i, x, b, rfl⟩ := mw_nest_is hw
  exact va_Nw.same rfl (u := U) (U := U.calling g mk a) rfl (h2 _ hw)
-- locals
def mm_get : List (Nat × Value) → Nat → Option Value
  | [], _ => none
  | q :: l, k => match Nat.beq q.1 k with
    | true => some q.2
    | false => mm_get l k
def mm_L (ls : Array Slot) (nL : Nat) (lv : List (Nat × Value)) : Prop := ∃ l, lv_has ls nL l ∧ ∀ k v, mm_get lv k = some v → (k, v) ∈ l ∧ v.category = 1
theorem mm_get_hd {lv : List (Nat × Value)} {i k : Nat} {v w : Value} (h : mm_get ((i, v) :: lv) k = some w) : (k = i ∧ w = v) ∨ (k ≠ i ∧ mm_get lv k = some w) := by
  unfold mm_get at h
  split at h
  · rename_i hb
    exact Or.inl ⟨(Nat.eq_of_beq_eq_true hb).symm, (Option.some.inj h).symm⟩
  · rename_i hb
    exact Or.inr ⟨fun e => Nat.ne_of_beq_eq_false hb e.symm, h⟩
theorem mm_get_mem : ∀ {lv : List (Nat × Value)} {k : Nat} {v : Value}, mm_get lv k = some v → (k, v) ∈ lv
  | [], _, _, h => by cases h
  | (i, x) :: lv, k, v, h => by
    rcases mm_get_hd h with ⟨rfl, rfl⟩ | ⟨-, h2⟩
    · exact List.mem_cons_self
    · exact List.mem_cons_of_mem _ (mm_get_mem h2)
theorem mm_L.at {ls : Array Slot} {nL : Nat} {lv : List (Nat × Value)} (h : mm_L ls nL lv) {k : Nat} {v : Value} (hk : mm_get lv k = some v) : ls[k]? = some (.val v) := by
  obtain ⟨l, h1, h2⟩ := h
  exact h1.2.2 (k, v) (h2 k v hk).1
theorem mm_L.sub {ls : Array Slot} {nL : Nat} {lv lv' : List (Nat × Value)} (h : mm_L ls nL lv) (hs : ∀ k v, mm_get lv' k = some v → mm_get lv k = some v) : mm_L ls nL lv' := by
  obtain ⟨l, h1, h2⟩ := h
  exact ⟨l, h1, fun k v hk => h2 k v (hs k v hk)⟩
noncomputable def mm_L.l {ls : Array Slot} {nL : Nat} {lv : List (Nat × Value)} (h : mm_L ls nL lv) : List (Nat × Value) := Classical.choose h
theorem mm_L.has {ls : Array Slot} {nL : Nat} {lv : List (Nat × Value)} (h : mm_L ls nL lv) : lv_has ls nL h.l := (Classical.choose_spec h).1
theorem mm_L.st {ls ls2 : Array Slot} {nL : Nat} {lv : List (Nat × Value)} (h : mm_L ls nL lv) {i : Nat} {v : Value} (h2 : lv_has ls2 nL ((i, v) :: h.l.filter (fun q => !(q.1 == i) && !(q.1 + 1 == i && q.2.category == 2)))) (hv : v.category = 1) : mm_L ls2 nL ((i, v) :: lv) := by
  refine ⟨_, h2, fun k w hk => ?_⟩
  rcases mm_get_hd hk with ⟨rfl, rfl⟩ | ⟨hne, hk2⟩
  · exact ⟨List.mem_cons_self, hv⟩
  · obtain ⟨h3, h4⟩ := (Classical.choose_spec h).2 k w hk2
    refine ⟨List.mem_cons_of_mem _ (List.mem_filter.mpr ⟨h3, ?_⟩), h4⟩
    simp [hne, h4]
-- the judgement
def mm_C (M : mm_M) (mc ms : Nat) (D : va_G) (cA : Nat → ClassId) (z : Nat) (p : Program) (R : Room) (s : State) (m : MethodId) (args : Array Value) (meth : Method) (c : Code) : Prop :=
  p.tables.exec = Jvm.exec ∧ c.code = M.2.2.1 ∧ c.maxLocals = M.2.2.2.1 ∧ s.vm.findClass M.1 = some m.cls ∧ (∀ w ∈ mw_all, w.before args s = true) ∧ meth.sig.returnType = M.2.2.2.2.1 ∧ meth.locks = false ∧ mm_K D cA s ∧ meth.name = M.2.1.name ∧
    (M.2.2.2.2.2 ≤ R.frames ∧ 30 * M.2.2.2.2.2 ≤ R.locals ∧ mc ≤ R.cells ∧ ms ≤ R.slots) ∧ z ≤ s.heap.size
abbrev mm_X : Type := va_G → (Nat → ClassId) → Nat → State → Array Value → List Frame → (State → Prop) → Prop
def mm_G (X : mm_X) (M : mm_M) (mc ms : Nat) (pc : Nat) (lv : List (Nat × Value)) (st : List Value) (S : mm_S) (I : mm_I) (cl sl : Nat) : Prop :=
  ∀ (l : Launch) (D : va_G) (cA : Nat → ClassId) (z : Nat) (p : Program) (e : Env) (R : Room) (s : State) (m : MethodId) (args : Array Value) (below : List Frame) (meth : Method) (c : Code) (Qf : State → Prop),
    X D cA z s args below Qf → mm_C M mc ms D cA z p R s m args meth c → ∀ (H : Heap) (locs : List Loc) (ls : Array Slot), mm_R D cA z S I H → va_S (fun q => z ≤ q) s.heap H locs → mm_L ls M.2.2.2.1 lv →
      W p l e R s m args below meth c H locs cl sl Qf (F0 m pc ls st)
def mm_Q (D : va_G) (cA : Nat → ClassId) (z : Nat) (Q : Option Value → mm_S → mm_I → Prop) : Array Value → State → Outcome → State → Prop := fun _ st o t =>
  (∃ (v : Option Value) (S' : mm_S) (I' : mm_I), o = .returned v ∧ Q v S' I' ∧ mm_R D cA z S' I' t.heap) ∧ va_F (fun q => z ≤ q) st t
def mm_P (D : va_G) (cA : Nat → ClassId) (z : Nat) (as : List Value) (S : mm_S) (I : mm_I) : Array Value → State → Prop := fun v U => v = as.toArray ∧ mm_R D cA z S I U.heap ∧ mm_K D cA U
def mm_XM (mc ms : Nat) (Q : Option Value → mm_S → mm_I → Prop) : mm_X := fun D cA z s args below Qf => Qf = MQ below (mm_Q D cA z Q) args s mc ms (fun q => z ≤ q)
def mm_rm (M : mm_M) (mc ms : Nat) : Room := { frames := M.2.2.2.2.2, cells := mc, slots := ms, locals := 30 * M.2.2.2.2.2 }
/-- a method's contract: from the world S, I it returns, and Q holds of its answer and its world -/
def mm_Ct (M : mm_M) (mc ms : Nat) (as : List Value) (S : mm_S) (I : mm_I) (Q : Option Value → mm_S → mm_I → Prop) : Prop :=
  ∀ (l : Launch) (D : va_G) (cA : Nat → ClassId) (z : Nat), Met l M.2.1 (.code M.2.1 M.2.2.1 M.2.2.2.1 M.2.2.2.2.1 :: mw_all) (mm_rm M mc ms) (mm_P D cA z as S I) (mm_Q D cA z Q) mc ms (fun q => z ≤ q)
/-- ... one that makes no cell -/
def mm_ct (M : mm_M) (as : List Value) (S : mm_S) (I : mm_I) (Q : Option Value → mm_I → Prop) : Prop := mm_Ct M 0 0 as S I (fun v S' I' => S' = S ∧ Q v I')
/-- what the tables say of a method -/
def mm_ok (M : mm_M) (n : Nat) : Prop := plainFor M.2.1 = true ∧ M.1 = M.2.1.cls ∧ Cond.code M.2.1 M.2.2.1 M.2.2.2.1 M.2.2.2.2.1 ∈ mw_all ∧ (M.2.1.cls ≠ "java/lang/invoke/MethodHandle" ∧ M.2.1.cls ≠ "java/lang/invoke/VarHandle" ∧ (parseMethodDescriptor M.2.1.desc).map (fun d => d.parameters.length) = some n) ∧ M.2.2.2.1 ≤ 11 ∧ Cond.initialized M.2.1.cls ∈ mw_all
theorem mm_ofW {l : Launch} {y : MethodName} {ws ws' : List Cond} {rm : Room} {Pc : Array Value → State → Prop} {Qc : Array Value → State → Outcome → State → Prop} {mc ms : Nat} {free : Addr → Prop} {cc : ByteArray} {maxL : Nat} {ret : Option FieldType}
    (hy : plainFor y = true) (hw : ws = Cond.code y cc maxL ret :: ws')
    (body : ∀ p e s m args below meth c s₁, BodyLoose p l y (headSpec ws rm) cc maxL ret e s m args below meth c s₁ → c.maxLocals = maxL → Pc args s →
      W p l e (headSpec ws rm).room s m args below meth c s.heap [] 0 0 (MQ below Qc args s mc ms free) (entryFrame m args maxL)) : Met l y ws rm Pc Qc mc ms free := by
  refine MetFree.of_bodySF (code := cc) (maxLocals := maxL) (ret := ret) hy ?_ ?_
  · intro args s m h hn
    obtain ⟨meth, c, h1, h2, h3, h4, h5, h6, -, -⟩ := Cond.code_spec hn (atoms_spec (ws := ws) h _ (by rw [hw]; exact List.mem_cons_self))
    exact ⟨meth, c, h1, h2, h3, h4, h5, h6⟩
  · intro p e s m args below meth c s₁ B hml hP _
    have hh0 : s₁.heap = s.heap := by rw [B.state]; rfl
    obtain ⟨t, a1, o, b1, b2, b3⟩ := body p e s m args below meth c s₁ B hml hP s₁ hh0 (Stand.of_body B)
    exact ⟨t, o, a1, b1, b2, ⟨b3.1, b3.2⟩⟩
theorem mm_args_mem : ∀ {as : List Value} {i k : Nat} {v : Value}, (k, v) ∈ lv_args i as → v ∈ as
  | [], _, _, _, h => by cases h
  | a :: as, i, k, v, h => by
    rcases List.mem_cons.mp h with h | h
    · cases h; exact List.mem_cons_self
    · exact List.mem_cons_of_mem _ (mm_args_mem h)
theorem mm_Ct.of {M : mm_M} {n mc ms : Nat} {as : List Value} {S : mm_S} {I : mm_I} {Q : Option Value → mm_S → mm_I → Prop} (hM : mm_ok M n) (hc : as.all (fun v => v.category == 1) = true) (hn : (lg_sl as).length ≤ M.2.2.2.1) {lv : List (Nat × Value)} (hlv : lv_args 0 as = lv) (body : mm_G (mm_XM mc ms Q) M mc ms 0 lv [] S I 0 0) : mm_Ct M mc ms as S I Q := by
  intro l D cA z
  refine mm_ofW (cc := M.2.2.1) (maxL := M.2.2.2.1) (ret := M.2.2.2.2.1) hM.1 rfl ?_
  intro p e s m args below meth c s₁ B hml hv
  obtain ⟨rfl, hR, hK⟩ := hv
  have hts := atoms_spec (ws := .code M.2.1 M.2.2.1 M.2.2.2.1 M.2.2.2.2.1 :: mw_all) B.pre
  have hown : s.vm.findClass M.2.1.cls = some m.cls := findClass_of_methodNamed B.named
  rw [lg_entry_eq]
  refine body l D cA z p e _ s m _ below meth c _ rfl ⟨B.exec, B.bytes, hml, hM.2.1 ▸ hown, fun w h => hts w (List.mem_cons_of_mem _ h), B.returns, B.notSynchronized, hK, (name_of_methodNamed B.named B.method).1, ⟨Nat.le_refl _, Nat.le_refl _, Nat.le_refl _, Nat.le_refl _⟩, ?_⟩ s.heap [] _ hR va_S.rf ?_
  · rw [hR.2.1]; exact hR.2.2.1
  · refine ⟨lv_args 0 as, lv_entry as hn, fun k v hk => ?_⟩
    subst hlv
    have h1 := mm_get_mem hk
    refine ⟨h1, ?_⟩
    have h2 := List.all_eq_true.mp hc v (mm_args_mem h1)
    simpa using h2
theorem mm_ct.of {M : mm_M} {n : Nat} {as : List Value} {S : mm_S} {I : mm_I} {Q : Option Value → mm_I → Prop} (hM : mm_ok M n) (hc : as.all (fun v => v.category == 1) = true) (hn : (lg_sl as).length ≤ M.2.2.2.1) {lv : List (Nat × Value)} (hlv : lv_args 0 as = lv) (body : mm_G (mm_XM 0 0 (fun v S' I' => S' = S ∧ Q v I')) M 0 0 0 lv [] S I 0 0) : mm_ct M as S I Q := mm_Ct.of hM hc hn hlv body
theorem mm_Ct.to {M : mm_M} {mc ms : Nat} {as : List Value} {S : mm_S} {I : mm_I} {Q Q' : Option Value → mm_S → mm_I → Prop} (h : mm_Ct M mc ms as S I Q) (hq : ∀ v S' I', Q v S' I' → Q' v S' I') : mm_Ct M mc ms as S I Q' := by
  intro l D cA z p e ha hc hk s m args below hf happ hP hK2
  obtain ⟨t, o, h1, h2, h3, ⟨⟨v, S', I', e1, e2, e3⟩, e4⟩, e5⟩ := h l D cA z p e ha hc hk s m args below hf happ hP hK2
  exact ⟨t, o, h1, h2, h3, ⟨⟨v, S', I', e1, hq v S' I' e2, e3⟩, e4⟩, e5⟩
/-- fewer locals are asked -/
theorem mm_G.sub {X : mm_X} {M : mm_M} {mc ms pc : Nat} {lv lv' : List (Nat × Value)} {st : List Value} {S : mm_S} {I : mm_I} {cl sl : Nat} (hs : ∀ k v, mm_get lv' k = some v → mm_get lv k = some v) (k : mm_G X M mc ms pc lv' st S I cl sl) : mm_G X M mc ms pc lv st S I cl sl := fun l D cA z p e R s m args below meth c Qf hX C H locs ls hR hS hL => k l D cA z p e R s m args below meth c Qf hX C H locs ls hR hS (hL.sub hs)
theorem mm_G.i {X : mm_X} {M : mm_M} {mc ms pc : Nat} {lv : List (Nat × Value)} {st : List Value} {S : mm_S} {I I' : mm_I} {cl sl : Nat} (h : I = I') (k : mm_G X M mc ms pc lv st S I' cl sl) : mm_G X M mc ms pc lv st S I cl sl := h ▸ k
/-- a list of locals, entry by entry -/
theorem mm_s0 {lv : List (Nat × Value)} : ∀ k v, mm_get [] k = some v → mm_get lv k = some v := fun _ _ h => by cases h
theorem mm_s1 {lv l : List (Nat × Value)} {i : Nat} {x : Value} (h : mm_get lv i = some x) (hs : ∀ k v, mm_get l k = some v → mm_get lv k = some v) : ∀ k v, mm_get ((i, x) :: l) k = some v → mm_get lv k = some v := by
  intro k v hk
  rcases mm_get_hd hk with ⟨rfl, rfl⟩ | ⟨-, h2⟩
  · exact h
  · exact hs k v h2

theorem mm_iadd {X : mm_X} {M : mm_M} {mc ms pc : Nat} {lv : List (Nat × Value)} {st : List Value} {S : mm_S} {I : mm_I} {cl sl : Nat} {x y : Int32} (hd : decode M.2.2.1 pc = .ok (.iadd, 1))  (k : mm_G X M mc ms (pc + 1) lv (.int (x + y) :: st) S I cl sl) : mm_G X M mc ms pc lv (.int y :: .int x :: st) S I cl sl := fun l D cA z p e R s m args below meth c Qf hX C H locs ls hR hS hL => lv_iadd C.1 C.2.1 hd  (k l D cA z p e R s m args below meth c Qf hX C H locs ls hR hS hL)
theorem mm_isub {X : mm_X} {M : mm_M} {mc ms pc : Nat} {lv : List (Nat × Value)} {st : List Value} {S : mm_S} {I : mm_I} {cl sl : Nat} {x y : Int32} (hd : decode M.2.2.1 pc = .ok (.isub, 1))  (k : mm_G X M mc ms (pc + 1) lv (.int (x - y) :: st) S I cl sl) : mm_G X M mc ms pc lv (.int y :: .int x :: st) S I cl sl := fun l D cA z p e R s m args below meth c Qf hX C H locs ls hR hS hL => lv_isub C.1 C.2.1 hd  (k l D cA z p e R s m args below meth c Qf hX C H locs ls hR hS hL)
theorem mm_imul {X : mm_X} {M : mm_M} {mc ms pc : Nat} {lv : List (Nat × Value)} {st : List Value} {S : mm_S} {I : mm_I} {cl sl : Nat} {x y : Int32} (hd : decode M.2.2.1 pc = .ok (.imul, 1))  (k : mm_G X M mc ms (pc + 1) lv (.int (x * y) :: st) S I cl sl) : mm_G X M mc ms pc lv (.int y :: .int x :: st) S I cl sl := fun l D cA z p e R s m args below meth c Qf hX C H locs ls hR hS hL => lv_imul C.1 C.2.1 hd  (k l D cA z p e R s m args below meth c Qf hX C H locs ls hR hS hL)
theorem mm_iand {X : mm_X} {M : mm_M} {mc ms pc : Nat} {lv : List (Nat × Value)} {st : List Value} {S : mm_S} {I : mm_I} {cl sl : Nat} {x y : Int32} (hd : decode M.2.2.1 pc = .ok (.iand, 1))  (k : mm_G X M mc ms (pc + 1) lv (.int (x &&& y) :: st) S I cl sl) : mm_G X M mc ms pc lv (.int y :: .int x :: st) S I cl sl := fun l D cA z p e R s m args below meth c Qf hX C H locs ls hR hS hL => lv_iand C.1 C.2.1 hd  (k l D cA z p e R s m args below meth c Qf hX C H locs ls hR hS hL)
theorem mm_ior {X : mm_X} {M : mm_M} {mc ms pc : Nat} {lv : List (Nat × Value)} {st : List Value} {S : mm_S} {I : mm_I} {cl sl : Nat} {x y : Int32} (hd : decode M.2.2.1 pc = .ok (.ior, 1))  (k : mm_G X M mc ms (pc + 1) lv (.int (x ||| y) :: st) S I cl sl) : mm_G X M mc ms pc lv (.int y :: .int x :: st) S I cl sl := fun l D cA z p e R s m args below meth c Qf hX C H locs ls hR hS hL => lv_ior C.1 C.2.1 hd  (k l D cA z p e R s m args below meth c Qf hX C H locs ls hR hS hL)
theorem mm_ishl {X : mm_X} {M : mm_M} {mc ms pc : Nat} {lv : List (Nat × Value)} {st : List Value} {S : mm_S} {I : mm_I} {cl sl : Nat} {x y : Int32} (hd : decode M.2.2.1 pc = .ok (.ishl, 1))  (k : mm_G X M mc ms (pc + 1) lv (.int (x <<< (y &&& 31)) :: st) S I cl sl) : mm_G X M mc ms pc lv (.int y :: .int x :: st) S I cl sl := fun l D cA z p e R s m args below meth c Qf hX C H locs ls hR hS hL => lv_ishl C.1 C.2.1 hd  (k l D cA z p e R s m args below meth c Qf hX C H locs ls hR hS hL)
theorem mm_idiv {X : mm_X} {M : mm_M} {mc ms pc : Nat} {lv : List (Nat × Value)} {st : List Value} {S : mm_S} {I : mm_I} {cl sl : Nat} {x y : Int32} (hd : decode M.2.2.1 pc = .ok (.idiv, 1)) (hne : ¬ y = 0) (k : mm_G X M mc ms (pc + 1) lv (.int (x / y) :: st) S I cl sl) : mm_G X M mc ms pc lv (.int y :: .int x :: st) S I cl sl := fun l D cA z p e R s m args below meth c Qf hX C H locs ls hR hS hL => lv_idiv C.1 C.2.1 hd hne (k l D cA z p e R s m args below meth c Qf hX C H locs ls hR hS hL)
theorem mm_ineg {X : mm_X} {M : mm_M} {mc ms pc : Nat} {lv : List (Nat × Value)} {st : List Value} {S : mm_S} {I : mm_I} {cl sl : Nat} {x : Int32} (hd : decode M.2.2.1 pc = .ok (.ineg, 1))  (k : mm_G X M mc ms (pc + 1) lv (.int (-x) :: st) S I cl sl) : mm_G X M mc ms pc lv (.int x :: st) S I cl sl := fun l D cA z p e R s m args below meth c Qf hX C H locs ls hR hS hL => lv_ineg C.1 C.2.1 hd  (k l D cA z p e R s m args below meth c Qf hX C H locs ls hR hS hL)
theorem mm_lmul {X : mm_X} {M : mm_M} {mc ms pc : Nat} {lv : List (Nat × Value)} {st : List Value} {S : mm_S} {I : mm_I} {cl sl : Nat} {x y : Int64} (hd : decode M.2.2.1 pc = .ok (.lmul, 1))  (k : mm_G X M mc ms (pc + 1) lv (.long (x * y) :: st) S I cl sl) : mm_G X M mc ms pc lv (.long y :: .long x :: st) S I cl sl := fun l D cA z p e R s m args below meth c Qf hX C H locs ls hR hS hL => lv_lmul C.1 C.2.1 hd  (k l D cA z p e R s m args below meth c Qf hX C H locs ls hR hS hL)
theorem mm_ldiv {X : mm_X} {M : mm_M} {mc ms pc : Nat} {lv : List (Nat × Value)} {st : List Value} {S : mm_S} {I : mm_I} {cl sl : Nat} {x y : Int64} (hd : decode M.2.2.1 pc = .ok (.ldiv, 1)) (hne : ¬ y = 0) (k : mm_G X M mc ms (pc + 1) lv (.long (x / y) :: st) S I cl sl) : mm_G X M mc ms pc lv (.long y :: .long x :: st) S I cl sl := fun l D cA z p e R s m args below meth c Qf hX C H locs ls hR hS hL => lv_ldiv C.1 C.2.1 hd hne (k l D cA z p e R s m args below meth c Qf hX C H locs ls hR hS hL)
theorem mm_i2l {X : mm_X} {M : mm_M} {mc ms pc : Nat} {lv : List (Nat × Value)} {st : List Value} {S : mm_S} {I : mm_I} {cl sl : Nat} {x : Int32} (hd : decode M.2.2.1 pc = .ok (.i2l, 1))  (k : mm_G X M mc ms (pc + 1) lv (.long x.toInt64 :: st) S I cl sl) : mm_G X M mc ms pc lv (.int x :: st) S I cl sl := fun l D cA z p e R s m args below meth c Qf hX C H locs ls hR hS hL => lv_i2l C.1 C.2.1 hd rfl (k l D cA z p e R s m args below meth c Qf hX C H locs ls hR hS hL)
theorem mm_l2i {X : mm_X} {M : mm_M} {mc ms pc : Nat} {lv : List (Nat × Value)} {st : List Value} {S : mm_S} {I : mm_I} {cl sl : Nat} {x : Int64} (hd : decode M.2.2.1 pc = .ok (.l2i, 1))  (k : mm_G X M mc ms (pc + 1) lv (.int x.toInt32 :: st) S I cl sl) : mm_G X M mc ms pc lv (.long x :: st) S I cl sl := fun l D cA z p e R s m args below meth c Qf hX C H locs ls hR hS hL => lv_l2i C.1 C.2.1 hd rfl (k l D cA z p e R s m args below meth c Qf hX C H locs ls hR hS hL)
theorem mm_i2f {X : mm_X} {M : mm_M} {mc ms pc : Nat} {lv : List (Nat × Value)} {st : List Value} {S : mm_S} {I : mm_I} {cl sl : Nat} {x : Int32} (hd : decode M.2.2.1 pc = .ok (.i2f, 1))  (k : mm_G X M mc ms (pc + 1) lv (.float (FP.i2f x) :: st) S I cl sl) : mm_G X M mc ms pc lv (.int x :: st) S I cl sl := fun l D cA z p e R s m args below meth c Qf hX C H locs ls hR hS hL => lv_i2f C.1 C.2.1 hd  (k l D cA z p e R s m args below meth c Qf hX C H locs ls hR hS hL)
theorem mm_f2i {X : mm_X} {M : mm_M} {mc ms pc : Nat} {lv : List (Nat × Value)} {st : List Value} {S : mm_S} {I : mm_I} {cl sl : Nat} {x : UInt32} (hd : decode M.2.2.1 pc = .ok (.f2i, 1))  (k : mm_G X M mc ms (pc + 1) lv (.int (FP.f2i x) :: st) S I cl sl) : mm_G X M mc ms pc lv (.float x :: st) S I cl sl := fun l D cA z p e R s m args below meth c Qf hX C H locs ls hR hS hL => lv_f2i C.1 C.2.1 hd  (k l D cA z p e R s m args below meth c Qf hX C H locs ls hR hS hL)
theorem mm_fdiv {X : mm_X} {M : mm_M} {mc ms pc : Nat} {lv : List (Nat × Value)} {st : List Value} {S : mm_S} {I : mm_I} {cl sl : Nat} {x y : UInt32} (hd : decode M.2.2.1 pc = .ok (.fdiv, 1)) (hne : vf_n32 (FP.fdiv x y)) (k : mm_G X M mc ms (pc + 1) lv (.float (FP.fdiv x y) :: st) S I cl sl) : mm_G X M mc ms pc lv (.float y :: .float x :: st) S I cl sl := fun l D cA z p e R s m args below meth c Qf hX C H locs ls hR hS hL => lv_fdiv C.1 C.2.1 hd hne (k l D cA z p e R s m args below meth c Qf hX C H locs ls hR hS hL)
theorem mm_fmul {X : mm_X} {M : mm_M} {mc ms pc : Nat} {lv : List (Nat × Value)} {st : List Value} {S : mm_S} {I : mm_I} {cl sl : Nat} {x y : UInt32} (hd : decode M.2.2.1 pc = .ok (.fmul, 1)) (hne : vf_n32 (FP.fmul x y)) (k : mm_G X M mc ms (pc + 1) lv (.float (FP.fmul x y) :: st) S I cl sl) : mm_G X M mc ms pc lv (.float y :: .float x :: st) S I cl sl := fun l D cA z p e R s m args below meth c Qf hX C H locs ls hR hS hL => lv_fmul C.1 C.2.1 hd hne (k l D cA z p e R s m args below meth c Qf hX C H locs ls hR hS hL)
theorem mm_fsub {X : mm_X} {M : mm_M} {mc ms pc : Nat} {lv : List (Nat × Value)} {st : List Value} {S : mm_S} {I : mm_I} {cl sl : Nat} {x y : UInt32} (hd : decode M.2.2.1 pc = .ok (.fsub, 1)) (hne : vf_n32 (FP.fsub x y)) (k : mm_G X M mc ms (pc + 1) lv (.float (FP.fsub x y) :: st) S I cl sl) : mm_G X M mc ms pc lv (.float y :: .float x :: st) S I cl sl := fun l D cA z p e R s m args below meth c Qf hX C H locs ls hR hS hL => lv_fsub C.1 C.2.1 hd hne (k l D cA z p e R s m args below meth c Qf hX C H locs ls hR hS hL)
theorem mm_fcmp {X : mm_X} {M : mm_M} {mc ms pc : Nat} {lv : List (Nat × Value)} {st : List Value} {S : mm_S} {I : mm_I} {cl sl : Nat} {x y : UInt32} {op : CmpOp} (hd : decode M.2.2.1 pc = .ok (.fcmp op, 1))  (k : mm_G X M mc ms (pc + 1) lv (.int (Op.cmpValue (FP.fcmp x y) op) :: st) S I cl sl) : mm_G X M mc ms pc lv (.float y :: .float x :: st) S I cl sl := fun l D cA z p e R s m args below meth c Qf hX C H locs ls hR hS hL => lv_fcmp C.1 C.2.1 hd  (k l D cA z p e R s m args below meth c Qf hX C H locs ls hR hS hL)
theorem mm_fconst0 {X : mm_X} {M : mm_M} {mc ms pc : Nat} {lv : List (Nat × Value)} {st : List Value} {S : mm_S} {I : mm_I} {cl sl : Nat}  (hd : decode M.2.2.1 pc = .ok (.fconst 0, 1))  (k : mm_G X M mc ms (pc + 1) lv (.float FP.fconst0 :: st) S I cl sl) : mm_G X M mc ms pc lv (st) S I cl sl := fun l D cA z p e R s m args below meth c Qf hX C H locs ls hR hS hL => lv_fconst0 C.1 C.2.1 hd  (k l D cA z p e R s m args below meth c Qf hX C H locs ls hR hS hL)
theorem mm_fconst1 {X : mm_X} {M : mm_M} {mc ms pc : Nat} {lv : List (Nat × Value)} {st : List Value} {S : mm_S} {I : mm_I} {cl sl : Nat}  (hd : decode M.2.2.1 pc = .ok (.fconst 1, 1))  (k : mm_G X M mc ms (pc + 1) lv (.float FP.fconst1 :: st) S I cl sl) : mm_G X M mc ms pc lv (st) S I cl sl := fun l D cA z p e R s m args below meth c Qf hX C H locs ls hR hS hL => lv_fconst1 C.1 C.2.1 hd  (k l D cA z p e R s m args below meth c Qf hX C H locs ls hR hS hL)
theorem mm_fconst2 {X : mm_X} {M : mm_M} {mc ms pc : Nat} {lv : List (Nat × Value)} {st : List Value} {S : mm_S} {I : mm_I} {cl sl : Nat}  (hd : decode M.2.2.1 pc = .ok (.fconst 2, 1))  (k : mm_G X M mc ms (pc + 1) lv (.float FP.fconst2 :: st) S I cl sl) : mm_G X M mc ms pc lv (st) S I cl sl := fun l D cA z p e R s m args below meth c Qf hX C H locs ls hR hS hL => lv_fconst2 C.1 C.2.1 hd  (k l D cA z p e R s m args below meth c Qf hX C H locs ls hR hS hL)
theorem mm_iconst {X : mm_X} {M : mm_M} {mc ms pc : Nat} {lv : List (Nat × Value)} {st : List Value} {S : mm_S} {I : mm_I} {cl sl : Nat} {n : Int} (v : Int32) (hd : decode M.2.2.1 pc = .ok (.iconst n, 1)) (hv : Int32.ofInt n = v) (k : mm_G X M mc ms (pc + 1) lv (.int v :: st) S I cl sl) : mm_G X M mc ms pc lv (st) S I cl sl := fun l D cA z p e R s m args below meth c Qf hX C H locs ls hR hS hL => lv_iconst C.1 C.2.1 hd hv (k l D cA z p e R s m args below meth c Qf hX C H locs ls hR hS hL)
theorem mm_bipush {X : mm_X} {M : mm_M} {mc ms pc : Nat} {lv : List (Nat × Value)} {st : List Value} {S : mm_S} {I : mm_I} {cl sl : Nat} {n : Int} (v : Int32) (hd : decode M.2.2.1 pc = .ok (.bipush n, 2)) (hv : (Int8.ofInt n).toInt32 = v) (k : mm_G X M mc ms (pc + 2) lv (.int v :: st) S I cl sl) : mm_G X M mc ms pc lv (st) S I cl sl := fun l D cA z p e R s m args below meth c Qf hX C H locs ls hR hS hL => lv_bipush C.1 C.2.1 hd hv (k l D cA z p e R s m args below meth c Qf hX C H locs ls hR hS hL)
theorem mm_sipush {X : mm_X} {M : mm_M} {mc ms pc : Nat} {lv : List (Nat × Value)} {st : List Value} {S : mm_S} {I : mm_I} {cl sl : Nat} {n : Int} (v : Int32) (hd : decode M.2.2.1 pc = .ok (.sipush n, 3)) (hv : (Int16.ofInt n).toInt32 = v) (k : mm_G X M mc ms (pc + 3) lv (.int v :: st) S I cl sl) : mm_G X M mc ms pc lv (st) S I cl sl := fun l D cA z p e R s m args below meth c Qf hX C H locs ls hR hS hL => lv_sipush C.1 C.2.1 hd hv (k l D cA z p e R s m args below meth c Qf hX C H locs ls hR hS hL)
theorem mm_dup {X : mm_X} {M : mm_M} {mc ms pc : Nat} {lv : List (Nat × Value)} {st : List Value} {S : mm_S} {I : mm_I} {cl sl : Nat} {va : Value} (hd : decode M.2.2.1 pc = .ok (.dup, 1)) (hva : va.category = 1) (k : mm_G X M mc ms (pc + 1) lv (va :: va :: st) S I cl sl) : mm_G X M mc ms pc lv (va :: st) S I cl sl := fun l D cA z p e R s m args below meth c Qf hX C H locs ls hR hS hL => lv_dup C.1 C.2.1 hd hva (k l D cA z p e R s m args below meth c Qf hX C H locs ls hR hS hL)
theorem mm_dup2 {X : mm_X} {M : mm_M} {mc ms pc : Nat} {lv : List (Nat × Value)} {st : List Value} {S : mm_S} {I : mm_I} {cl sl : Nat} {va vb : Value} (hd : decode M.2.2.1 pc = .ok (.dup2, 1)) (hva : va.category = 1) (hvb : vb.category = 1) (k : mm_G X M mc ms (pc + 1) lv (va :: vb :: va :: vb :: st) S I cl sl) : mm_G X M mc ms pc lv (va :: vb :: st) S I cl sl := fun l D cA z p e R s m args below meth c Qf hX C H locs ls hR hS hL => lv_dup2_11 C.1 C.2.1 hd hva hvb (k l D cA z p e R s m args below meth c Qf hX C H locs ls hR hS hL)
theorem mm_pop {X : mm_X} {M : mm_M} {mc ms pc : Nat} {lv : List (Nat × Value)} {st : List Value} {S : mm_S} {I : mm_I} {cl sl : Nat} {va : Value} (hd : decode M.2.2.1 pc = .ok (.pop, 1)) (hva : va.category = 1) (k : mm_G X M mc ms (pc + 1) lv (st) S I cl sl) : mm_G X M mc ms pc lv (va :: st) S I cl sl := fun l D cA z p e R s m args below meth c Qf hX C H locs ls hR hS hL => lv_pop C.1 C.2.1 hd hva (k l D cA z p e R s m args below meth c Qf hX C H locs ls hR hS hL)
theorem mm_null {X : mm_X} {M : mm_M} {mc ms pc : Nat} {lv : List (Nat × Value)} {st : List Value} {S : mm_S} {I : mm_I} {cl sl : Nat}  (hd : decode M.2.2.1 pc = .ok (.aconst_null, 1))  (k : mm_G X M mc ms (pc + 1) lv (.null :: st) S I cl sl) : mm_G X M mc ms pc lv (st) S I cl sl := fun l D cA z p e R s m args below meth c Qf hX C H locs ls hR hS hL => lv_null C.1 C.2.1 hd  (k l D cA z p e R s m args below meth c Qf hX C H locs ls hR hS hL)
theorem mm_iload_n {X : mm_X} {M : mm_M} {mc ms pc : Nat} {lv : List (Nat × Value)} {st : List Value} {S : mm_S} {I : mm_I} {cl sl : Nat} {j : Fin 4} {i : Nat} {x : Int32} (hd : decode M.2.2.1 pc = .ok (.iload_n j, 1)) (hi : (j : Nat) = i) (hl : mm_get lv i = some (.int x)) (k : mm_G X M mc ms (pc + 1) lv (.int x :: st) S I cl sl) : mm_G X M mc ms pc lv st S I cl sl := fun l D cA z p e R s m args below meth c Qf hX C H locs ls hR hS hL => lv_iload_n C.1 C.2.1 hd hi (mm_L.at hL hl) (k l D cA z p e R s m args below meth c Qf hX C H locs ls hR hS hL)
theorem mm_iload {X : mm_X} {M : mm_M} {mc ms pc : Nat} {lv : List (Nat × Value)} {st : List Value} {S : mm_S} {I : mm_I} {cl sl : Nat} {i : Nat} {x : Int32} (hd : decode M.2.2.1 pc = .ok (.iload i, 2)) (hl : mm_get lv i = some (.int x)) (k : mm_G X M mc ms (pc + 2) lv (.int x :: st) S I cl sl) : mm_G X M mc ms pc lv st S I cl sl := fun l D cA z p e R s m args below meth c Qf hX C H locs ls hR hS hL => lv_iload C.1 C.2.1 hd (mm_L.at hL hl) (k l D cA z p e R s m args below meth c Qf hX C H locs ls hR hS hL)
theorem mm_aload_n {X : mm_X} {M : mm_M} {mc ms pc : Nat} {lv : List (Nat × Value)} {st : List Value} {S : mm_S} {I : mm_I} {cl sl : Nat} {j : Fin 4} {i : Nat} {x : Nat} (hd : decode M.2.2.1 pc = .ok (.aload_n j, 1)) (hi : (j : Nat) = i) (hl : mm_get lv i = some (.ref x)) (k : mm_G X M mc ms (pc + 1) lv (.ref x :: st) S I cl sl) : mm_G X M mc ms pc lv st S I cl sl := fun l D cA z p e R s m args below meth c Qf hX C H locs ls hR hS hL => lv_aload_n C.1 C.2.1 hd hi (mm_L.at hL hl) (k l D cA z p e R s m args below meth c Qf hX C H locs ls hR hS hL)
theorem mm_aload {X : mm_X} {M : mm_M} {mc ms pc : Nat} {lv : List (Nat × Value)} {st : List Value} {S : mm_S} {I : mm_I} {cl sl : Nat} {i : Nat} {x : Nat} (hd : decode M.2.2.1 pc = .ok (.aload i, 2)) (hl : mm_get lv i = some (.ref x)) (k : mm_G X M mc ms (pc + 2) lv (.ref x :: st) S I cl sl) : mm_G X M mc ms pc lv st S I cl sl := fun l D cA z p e R s m args below meth c Qf hX C H locs ls hR hS hL => lv_aload C.1 C.2.1 hd (mm_L.at hL hl) (k l D cA z p e R s m args below meth c Qf hX C H locs ls hR hS hL)
theorem mm_fload_n {X : mm_X} {M : mm_M} {mc ms pc : Nat} {lv : List (Nat × Value)} {st : List Value} {S : mm_S} {I : mm_I} {cl sl : Nat} {j : Fin 4} {i : Nat} {x : UInt32} (hd : decode M.2.2.1 pc = .ok (.fload_n j, 1)) (hi : (j : Nat) = i) (hl : mm_get lv i = some (.float x)) (k : mm_G X M mc ms (pc + 1) lv (.float x :: st) S I cl sl) : mm_G X M mc ms pc lv st S I cl sl := fun l D cA z p e R s m args below meth c Qf hX C H locs ls hR hS hL => lv_fload_n C.1 C.2.1 hd hi (mm_L.at hL hl) (k l D cA z p e R s m args below meth c Qf hX C H locs ls hR hS hL)
theorem mm_fload {X : mm_X} {M : mm_M} {mc ms pc : Nat} {lv : List (Nat × Value)} {st : List Value} {S : mm_S} {I : mm_I} {cl sl : Nat} {i : Nat} {x : UInt32} (hd : decode M.2.2.1 pc = .ok (.fload i, 2)) (hl : mm_get lv i = some (.float x)) (k : mm_G X M mc ms (pc + 2) lv (.float x :: st) S I cl sl) : mm_G X M mc ms pc lv st S I cl sl := fun l D cA z p e R s m args below meth c Qf hX C H locs ls hR hS hL => lv_fload C.1 C.2.1 hd (mm_L.at hL hl) (k l D cA z p e R s m args below meth c Qf hX C H locs ls hR hS hL)
theorem mm_aloadN_n {X : mm_X} {M : mm_M} {mc ms pc : Nat} {lv : List (Nat × Value)} {st : List Value} {S : mm_S} {I : mm_I} {cl sl : Nat} {j : Fin 4} {i : Nat} (hd : decode M.2.2.1 pc = .ok (.aload_n j, 1)) (hi : (j : Nat) = i) (hl : mm_get lv i = some (.null)) (k : mm_G X M mc ms (pc + 1) lv (.null :: st) S I cl sl) : mm_G X M mc ms pc lv st S I cl sl := fun l D cA z p e R s m args below meth c Qf hX C H locs ls hR hS hL => lv_aload_nN C.1 C.2.1 hd hi (mm_L.at hL hl) (k l D cA z p e R s m args below meth c Qf hX C H locs ls hR hS hL)
theorem mm_aloadN {X : mm_X} {M : mm_M} {mc ms pc : Nat} {lv : List (Nat × Value)} {st : List Value} {S : mm_S} {I : mm_I} {cl sl : Nat} {i : Nat} (hd : decode M.2.2.1 pc = .ok (.aload i, 2)) (hl : mm_get lv i = some (.null)) (k : mm_G X M mc ms (pc + 2) lv (.null :: st) S I cl sl) : mm_G X M mc ms pc lv st S I cl sl := fun l D cA z p e R s m args below meth c Qf hX C H locs ls hR hS hL => lv_aloadN C.1 C.2.1 hd (mm_L.at hL hl) (k l D cA z p e R s m args below meth c Qf hX C H locs ls hR hS hL)
theorem mm_istore_n {X : mm_X} {M : mm_M} {mc ms pc : Nat} {lv : List (Nat × Value)} {st : List Value} {S : mm_S} {I : mm_I} {cl sl : Nat} {j : Fin 4} {i : Nat} {x : Int32} (hd : decode M.2.2.1 pc = .ok (.istore_n j, 1)) (hi : (j : Nat) = i) (hn : i < M.2.2.2.1) (k : mm_G X M mc ms (pc + 1) ((i, .int x) :: lv) st S I cl sl) : mm_G X M mc ms pc lv (.int x :: st) S I cl sl := fun l D cA z p e R s m args below meth c Qf hX C H locs ls hR hS hL => lv_istore_n C.1 C.2.1 hd hi (mm_L.has hL) hn rfl (fun ls2 h2 => k l D cA z p e R s m args below meth c Qf hX C H locs ls2 hR hS (mm_L.st hL h2 rfl))
theorem mm_istore {X : mm_X} {M : mm_M} {mc ms pc : Nat} {lv : List (Nat × Value)} {st : List Value} {S : mm_S} {I : mm_I} {cl sl : Nat} {i : Nat} {x : Int32} (hd : decode M.2.2.1 pc = .ok (.istore i, 2)) (hn : i < M.2.2.2.1) (k : mm_G X M mc ms (pc + 2) ((i, .int x) :: lv) st S I cl sl) : mm_G X M mc ms pc lv (.int x :: st) S I cl sl := fun l D cA z p e R s m args below meth c Qf hX C H locs ls hR hS hL => lv_istore C.1 C.2.1 hd (mm_L.has hL) hn rfl (fun ls2 h2 => k l D cA z p e R s m args below meth c Qf hX C H locs ls2 hR hS (mm_L.st hL h2 rfl))
theorem mm_astore_n {X : mm_X} {M : mm_M} {mc ms pc : Nat} {lv : List (Nat × Value)} {st : List Value} {S : mm_S} {I : mm_I} {cl sl : Nat} {j : Fin 4} {i : Nat} {x : Nat} (hd : decode M.2.2.1 pc = .ok (.astore_n j, 1)) (hi : (j : Nat) = i) (hn : i < M.2.2.2.1) (k : mm_G X M mc ms (pc + 1) ((i, .ref x) :: lv) st S I cl sl) : mm_G X M mc ms pc lv (.ref x :: st) S I cl sl := fun l D cA z p e R s m args below meth c Qf hX C H locs ls hR hS hL => lv_astore_n C.1 C.2.1 hd hi (mm_L.has hL) hn rfl (fun ls2 h2 => k l D cA z p e R s m args below meth c Qf hX C H locs ls2 hR hS (mm_L.st hL h2 rfl))
theorem mm_astore {X : mm_X} {M : mm_M} {mc ms pc : Nat} {lv : List (Nat × Value)} {st : List Value} {S : mm_S} {I : mm_I} {cl sl : Nat} {i : Nat} {x : Nat} (hd : decode M.2.2.1 pc = .ok (.astore i, 2)) (hn : i < M.2.2.2.1) (k : mm_G X M mc ms (pc + 2) ((i, .ref x) :: lv) st S I cl sl) : mm_G X M mc ms pc lv (.ref x :: st) S I cl sl := fun l D cA z p e R s m args below meth c Qf hX C H locs ls hR hS hL => lv_astore C.1 C.2.1 hd (mm_L.has hL) hn rfl (fun ls2 h2 => k l D cA z p e R s m args below meth c Qf hX C H locs ls2 hR hS (mm_L.st hL h2 rfl))
theorem mm_fstore_n {X : mm_X} {M : mm_M} {mc ms pc : Nat} {lv : List (Nat × Value)} {st : List Value} {S : mm_S} {I : mm_I} {cl sl : Nat} {j : Fin 4} {i : Nat} {x : UInt32} (hd : decode M.2.2.1 pc = .ok (.fstore_n j, 1)) (hi : (j : Nat) = i) (hn : i < M.2.2.2.1) (k : mm_G X M mc ms (pc + 1) ((i, .float x) :: lv) st S I cl sl) : mm_G X M mc ms pc lv (.float x :: st) S I cl sl := fun l D cA z p e R s m args below meth c Qf hX C H locs ls hR hS hL => lv_fstore_n C.1 C.2.1 hd hi (mm_L.has hL) hn rfl (fun ls2 h2 => k l D cA z p e R s m args below meth c Qf hX C H locs ls2 hR hS (mm_L.st hL h2 rfl))
theorem mm_fstore {X : mm_X} {M : mm_M} {mc ms pc : Nat} {lv : List (Nat × Value)} {st : List Value} {S : mm_S} {I : mm_I} {cl sl : Nat} {i : Nat} {x : UInt32} (hd : decode M.2.2.1 pc = .ok (.fstore i, 2)) (hn : i < M.2.2.2.1) (k : mm_G X M mc ms (pc + 2) ((i, .float x) :: lv) st S I cl sl) : mm_G X M mc ms pc lv (.float x :: st) S I cl sl := fun l D cA z p e R s m args below meth c Qf hX C H locs ls hR hS hL => lv_fstore C.1 C.2.1 hd (mm_L.has hL) hn rfl (fun ls2 h2 => k l D cA z p e R s m args below meth c Qf hX C H locs ls2 hR hS (mm_L.st hL h2 rfl))
theorem mm_astoreN_n {X : mm_X} {M : mm_M} {mc ms pc : Nat} {lv : List (Nat × Value)} {st : List Value} {S : mm_S} {I : mm_I} {cl sl : Nat} {j : Fin 4} {i : Nat}  (hd : decode M.2.2.1 pc = .ok (.astore_n j, 1)) (hi : (j : Nat) = i) (hn : i < M.2.2.2.1) (k : mm_G X M mc ms (pc + 1) ((i, .null) :: lv) st S I cl sl) : mm_G X M mc ms pc lv (.null :: st) S I cl sl := fun l D cA z p e R s m args below meth c Qf hX C H locs ls hR hS hL => lv_astore_nN C.1 C.2.1 hd hi (mm_L.has hL) hn rfl (fun ls2 h2 => k l D cA z p e R s m args below meth c Qf hX C H locs ls2 hR hS (mm_L.st hL h2 rfl))
theorem mm_astoreN {X : mm_X} {M : mm_M} {mc ms pc : Nat} {lv : List (Nat × Value)} {st : List Value} {S : mm_S} {I : mm_I} {cl sl : Nat} {i : Nat}  (hd : decode M.2.2.1 pc = .ok (.astore i, 2)) (hn : i < M.2.2.2.1) (k : mm_G X M mc ms (pc + 2) ((i, .null) :: lv) st S I cl sl) : mm_G X M mc ms pc lv (.null :: st) S I cl sl := fun l D cA z p e R s m args below meth c Qf hX C H locs ls hR hS hL => lv_astoreN C.1 C.2.1 hd (mm_L.has hL) hn rfl (fun ls2 h2 => k l D cA z p e R s m args below meth c Qf hX C H locs ls2 hR hS (mm_L.st hL h2 rfl))
theorem mm_if_eq {X : mm_X} {M : mm_M} {mc ms pc : Nat} {lv : List (Nat × Value)} {st : List Value} {S : mm_S} {I : mm_I} {cl sl : Nat} {x : Int32} {off : Int} (tgt : Nat) (hd : decode M.2.2.1 pc = .ok (.ifCond .eq off, 3)) (ht : (pc : Int) + off = (tgt : Int)) (kt : x = 0 → mm_G X M mc ms tgt lv st S I cl sl) (kf : ¬ x = 0 → mm_G X M mc ms (pc + 3) lv st S I cl sl) : mm_G X M mc ms pc lv (.int x :: st) S I cl sl := fun l D cA z p e R s m args below meth c Qf hX C H locs ls hR hS hL => lv_if_eq C.1 C.2.1 hd ht (fun q => kt q l D cA z p e R s m args below meth c Qf hX C H locs ls hR hS hL) (fun q => kf q l D cA z p e R s m args below meth c Qf hX C H locs ls hR hS hL)
theorem mm_icmp_eq {X : mm_X} {M : mm_M} {mc ms pc : Nat} {lv : List (Nat × Value)} {st : List Value} {S : mm_S} {I : mm_I} {cl sl : Nat} {x y : Int32} {off : Int} (tgt : Nat) (hd : decode M.2.2.1 pc = .ok (.if_icmp .eq off, 3)) (ht : (pc : Int) + off = (tgt : Int)) (kt : x = y → mm_G X M mc ms tgt lv st S I cl sl) (kf : ¬ x = y → mm_G X M mc ms (pc + 3) lv st S I cl sl) : mm_G X M mc ms pc lv (.int y :: .int x :: st) S I cl sl := fun l D cA z p e R s m args below meth c Qf hX C H locs ls hR hS hL => lv_icmp_eq C.1 C.2.1 hd ht (fun q => kt q l D cA z p e R s m args below meth c Qf hX C H locs ls hR hS hL) (fun q => kf q l D cA z p e R s m args below meth c Qf hX C H locs ls hR hS hL)
theorem mm_if_ne {X : mm_X} {M : mm_M} {mc ms pc : Nat} {lv : List (Nat × Value)} {st : List Value} {S : mm_S} {I : mm_I} {cl sl : Nat} {x : Int32} {off : Int} (tgt : Nat) (hd : decode M.2.2.1 pc = .ok (.ifCond .ne off, 3)) (ht : (pc : Int) + off = (tgt : Int)) (kt : ¬ x = 0 → mm_G X M mc ms tgt lv st S I cl sl) (kf : x = 0 → mm_G X M mc ms (pc + 3) lv st S I cl sl) : mm_G X M mc ms pc lv (.int x :: st) S I cl sl := fun l D cA z p e R s m args below meth c Qf hX C H locs ls hR hS hL => lv_if_ne C.1 C.2.1 hd ht (fun q => kt q l D cA z p e R s m args below meth c Qf hX C H locs ls hR hS hL) (fun q => kf q l D cA z p e R s m args below meth c Qf hX C H locs ls hR hS hL)
theorem mm_icmp_ne {X : mm_X} {M : mm_M} {mc ms pc : Nat} {lv : List (Nat × Value)} {st : List Value} {S : mm_S} {I : mm_I} {cl sl : Nat} {x y : Int32} {off : Int} (tgt : Nat) (hd : decode M.2.2.1 pc = .ok (.if_icmp .ne off, 3)) (ht : (pc : Int) + off = (tgt : Int)) (kt : ¬ x = y → mm_G X M mc ms tgt lv st S I cl sl) (kf : x = y → mm_G X M mc ms (pc + 3) lv st S I cl sl) : mm_G X M mc ms pc lv (.int y :: .int x :: st) S I cl sl := fun l D cA z p e R s m args below meth c Qf hX C H locs ls hR hS hL => lv_icmp_ne C.1 C.2.1 hd ht (fun q => kt q l D cA z p e R s m args below meth c Qf hX C H locs ls hR hS hL) (fun q => kf q l D cA z p e R s m args below meth c Qf hX C H locs ls hR hS hL)
theorem mm_if_lt {X : mm_X} {M : mm_M} {mc ms pc : Nat} {lv : List (Nat × Value)} {st : List Value} {S : mm_S} {I : mm_I} {cl sl : Nat} {x : Int32} {off : Int} (tgt : Nat) (hd : decode M.2.2.1 pc = .ok (.ifCond .lt off, 3)) (ht : (pc : Int) + off = (tgt : Int)) (kt : x < 0 → mm_G X M mc ms tgt lv st S I cl sl) (kf : ¬ x < 0 → mm_G X M mc ms (pc + 3) lv st S I cl sl) : mm_G X M mc ms pc lv (.int x :: st) S I cl sl := fun l D cA z p e R s m args below meth c Qf hX C H locs ls hR hS hL => lv_if_lt C.1 C.2.1 hd ht (fun q => kt q l D cA z p e R s m args below meth c Qf hX C H locs ls hR hS hL) (fun q => kf q l D cA z p e R s m args below meth c Qf hX C H locs ls hR hS hL)
theorem mm_icmp_lt {X : mm_X} {M : mm_M} {mc ms pc : Nat} {lv : List (Nat × Value)} {st : List Value} {S : mm_S} {I : mm_I} {cl sl : Nat} {x y : Int32} {off : Int} (tgt : Nat) (hd : decode M.2.2.1 pc = .ok (.if_icmp .lt off, 3)) (ht : (pc : Int) + off = (tgt : Int)) (kt : x < y → mm_G X M mc ms tgt lv st S I cl sl) (kf : ¬ x < y → mm_G X M mc ms (pc + 3) lv st S I cl sl) : mm_G X M mc ms pc lv (.int y :: .int x :: st) S I cl sl := fun l D cA z p e R s m args below meth c Qf hX C H locs ls hR hS hL => lv_icmp_lt C.1 C.2.1 hd ht (fun q => kt q l D cA z p e R s m args below meth c Qf hX C H locs ls hR hS hL) (fun q => kf q l D cA z p e R s m args below meth c Qf hX C H locs ls hR hS hL)
theorem mm_if_ge {X : mm_X} {M : mm_M} {mc ms pc : Nat} {lv : List (Nat × Value)} {st : List Value} {S : mm_S} {I : mm_I} {cl sl : Nat} {x : Int32} {off : Int} (tgt : Nat) (hd : decode M.2.2.1 pc = .ok (.ifCond .ge off, 3)) (ht : (pc : Int) + off = (tgt : Int)) (kt : 0 ≤ x → mm_G X M mc ms tgt lv st S I cl sl) (kf : ¬ 0 ≤ x → mm_G X M mc ms (pc + 3) lv st S I cl sl) : mm_G X M mc ms pc lv (.int x :: st) S I cl sl := fun l D cA z p e R s m args below meth c Qf hX C H locs ls hR hS hL => lv_if_ge C.1 C.2.1 hd ht (fun q => kt q l D cA z p e R s m args below meth c Qf hX C H locs ls hR hS hL) (fun q => kf q l D cA z p e R s m args below meth c Qf hX C H locs ls hR hS hL)
theorem mm_icmp_ge {X : mm_X} {M : mm_M} {mc ms pc : Nat} {lv : List (Nat × Value)} {st : List Value} {S : mm_S} {I : mm_I} {cl sl : Nat} {x y : Int32} {off : Int} (tgt : Nat) (hd : decode M.2.2.1 pc = .ok (.if_icmp .ge off, 3)) (ht : (pc : Int) + off = (tgt : Int)) (kt : y ≤ x → mm_G X M mc ms tgt lv st S I cl sl) (kf : ¬ y ≤ x → mm_G X M mc ms (pc + 3) lv st S I cl sl) : mm_G X M mc ms pc lv (.int y :: .int x :: st) S I cl sl := fun l D cA z p e R s m args below meth c Qf hX C H locs ls hR hS hL => lv_icmp_ge C.1 C.2.1 hd ht (fun q => kt q l D cA z p e R s m args below meth c Qf hX C H locs ls hR hS hL) (fun q => kf q l D cA z p e R s m args below meth c Qf hX C H locs ls hR hS hL)
theorem mm_if_gt {X : mm_X} {M : mm_M} {mc ms pc : Nat} {lv : List (Nat × Value)} {st : List Value} {S : mm_S} {I : mm_I} {cl sl : Nat} {x : Int32} {off : Int} (tgt : Nat) (hd : decode M.2.2.1 pc = .ok (.ifCond .gt off, 3)) (ht : (pc : Int) + off = (tgt : Int)) (kt : 0 < x → mm_G X M mc ms tgt lv st S I cl sl) (kf : ¬ 0 < x → mm_G X M mc ms (pc + 3) lv st S I cl sl) : mm_G X M mc ms pc lv (.int x :: st) S I cl sl := fun l D cA z p e R s m args below meth c Qf hX C H locs ls hR hS hL => lv_if_gt C.1 C.2.1 hd ht (fun q => kt q l D cA z p e R s m args below meth c Qf hX C H locs ls hR hS hL) (fun q => kf q l D cA z p e R s m args below meth c Qf hX C H locs ls hR hS hL)
theorem mm_icmp_gt {X : mm_X} {M : mm_M} {mc ms pc : Nat} {lv : List (Nat × Value)} {st : List Value} {S : mm_S} {I : mm_I} {cl sl : Nat} {x y : Int32} {off : Int} (tgt : Nat) (hd : decode M.2.2.1 pc = .ok (.if_icmp .gt off, 3)) (ht : (pc : Int) + off = (tgt : Int)) (kt : y < x → mm_G X M mc ms tgt lv st S I cl sl) (kf : ¬ y < x → mm_G X M mc ms (pc + 3) lv st S I cl sl) : mm_G X M mc ms pc lv (.int y :: .int x :: st) S I cl sl := fun l D cA z p e R s m args below meth c Qf hX C H locs ls hR hS hL => lv_icmp_gt C.1 C.2.1 hd ht (fun q => kt q l D cA z p e R s m args below meth c Qf hX C H locs ls hR hS hL) (fun q => kf q l D cA z p e R s m args below meth c Qf hX C H locs ls hR hS hL)
theorem mm_if_le {X : mm_X} {M : mm_M} {mc ms pc : Nat} {lv : List (Nat × Value)} {st : List Value} {S : mm_S} {I : mm_I} {cl sl : Nat} {x : Int32} {off : Int} (tgt : Nat) (hd : decode M.2.2.1 pc = .ok (.ifCond .le off, 3)) (ht : (pc : Int) + off = (tgt : Int)) (kt : x ≤ 0 → mm_G X M mc ms tgt lv st S I cl sl) (kf : ¬ x ≤ 0 → mm_G X M mc ms (pc + 3) lv st S I cl sl) : mm_G X M mc ms pc lv (.int x :: st) S I cl sl := fun l D cA z p e R s m args below meth c Qf hX C H locs ls hR hS hL => lv_if_le C.1 C.2.1 hd ht (fun q => kt q l D cA z p e R s m args below meth c Qf hX C H locs ls hR hS hL) (fun q => kf q l D cA z p e R s m args below meth c Qf hX C H locs ls hR hS hL)
theorem mm_icmp_le {X : mm_X} {M : mm_M} {mc ms pc : Nat} {lv : List (Nat × Value)} {st : List Value} {S : mm_S} {I : mm_I} {cl sl : Nat} {x y : Int32} {off : Int} (tgt : Nat) (hd : decode M.2.2.1 pc = .ok (.if_icmp .le off, 3)) (ht : (pc : Int) + off = (tgt : Int)) (kt : x ≤ y → mm_G X M mc ms tgt lv st S I cl sl) (kf : ¬ x ≤ y → mm_G X M mc ms (pc + 3) lv st S I cl sl) : mm_G X M mc ms pc lv (.int y :: .int x :: st) S I cl sl := fun l D cA z p e R s m args below meth c Qf hX C H locs ls hR hS hL => lv_icmp_le C.1 C.2.1 hd ht (fun q => kt q l D cA z p e R s m args below meth c Qf hX C H locs ls hR hS hL) (fun q => kf q l D cA z p e R s m args below meth c Qf hX C H locs ls hR hS hL)
theorem mm_goto {X : mm_X} {M : mm_M} {mc ms pc : Nat} {lv : List (Nat × Value)} {st : List Value} {S : mm_S} {I : mm_I} {cl sl : Nat} {off : Int} (tgt : Nat) (hd : decode M.2.2.1 pc = .ok (.goto off, 3)) (ht : (pc : Int) + off = (tgt : Int)) (k : mm_G X M mc ms tgt lv st S I cl sl) : mm_G X M mc ms pc lv st S I cl sl := fun l D cA z p e R s m args below meth c Qf hX C H locs ls hR hS hL => lv_goto C.1 C.2.1 hd ht (k l D cA z p e R s m args below meth c Qf hX C H locs ls hR hS hL)
theorem mm_ifnull {X : mm_X} {M : mm_M} {mc ms pc : Nat} {lv : List (Nat × Value)} {st : List Value} {S : mm_S} {I : mm_I} {cl sl : Nat} {x : Nat} {off : Int} (hd : decode M.2.2.1 pc = .ok (.ifnull off, 3)) (k : mm_G X M mc ms (pc + 3) lv st S I cl sl) : mm_G X M mc ms pc lv (.ref x :: st) S I cl sl := fun l D cA z p e R s m args below meth c Qf hX C H locs ls hR hS hL => lv_ifnull C.1 C.2.1 hd (k l D cA z p e R s m args below meth c Qf hX C H locs ls hR hS hL)
theorem mm_ifnullN {X : mm_X} {M : mm_M} {mc ms pc : Nat} {lv : List (Nat × Value)} {st : List Value} {S : mm_S} {I : mm_I} {cl sl : Nat} {off : Int} (tgt : Nat) (hd : decode M.2.2.1 pc = .ok (.ifnull off, 3)) (ht : (pc : Int) + off = (tgt : Int)) (k : mm_G X M mc ms tgt lv st S I cl sl) : mm_G X M mc ms pc lv (.null :: st) S I cl sl := fun l D cA z p e R s m args below meth c Qf hX C H locs ls hR hS hL => lv_ifnullN C.1 C.2.1 hd ht (k l D cA z p e R s m args below meth c Qf hX C H locs ls hR hS hL)
theorem mm_ifnonnull {X : mm_X} {M : mm_M} {mc ms pc : Nat} {lv : List (Nat × Value)} {st : List Value} {S : mm_S} {I : mm_I} {cl sl : Nat} {x : Nat} {off : Int} (tgt : Nat) (hd : decode M.2.2.1 pc = .ok (.ifnonnull off, 3)) (ht : (pc : Int) + off = (tgt : Int)) (k : mm_G X M mc ms tgt lv st S I cl sl) : mm_G X M mc ms pc lv (.ref x :: st) S I cl sl := fun l D cA z p e R s m args below meth c Qf hX C H locs ls hR hS hL => lv_ifnonnull C.1 C.2.1 hd ht (k l D cA z p e R s m args below meth c Qf hX C H locs ls hR hS hL)
theorem mm_ifnonnullN {X : mm_X} {M : mm_M} {mc ms pc : Nat} {lv : List (Nat × Value)} {st : List Value} {S : mm_S} {I : mm_I} {cl sl : Nat} {off : Int} (hd : decode M.2.2.1 pc = .ok (.ifnonnull off, 3)) (k : mm_G X M mc ms (pc + 3) lv st S I cl sl) : mm_G X M mc ms pc lv (.null :: st) S I cl sl := fun l D cA z p e R s m args below meth c Qf hX C H locs ls hR hS hL => lv_ifnonnullN C.1 C.2.1 hd (k l D cA z p e R s m args below meth c Qf hX C H locs ls hR hS hL)
theorem mm_tableIn {X : mm_X} {M : mm_M} {mc ms pc : Nat} {lv : List (Nat × Value)} {st : List Value} {S : mm_S} {I : mm_I} {cl sl : Nat} {dflt lo hi : Int} {offs : Array Int} {len : Nat} {x : Int32} {off : Int} (tgt : Nat) (hd : decode M.2.2.1 pc = .ok (.tableswitch dflt lo hi offs, len)) (h1 : ¬ x.toInt < lo) (h2 : ¬ hi < x.toInt) (ho : offs[(x.toInt - lo).toNat]? = some off) (ht : (pc : Int) + off = (tgt : Int)) (k : mm_G X M mc ms tgt lv st S I cl sl) : mm_G X M mc ms pc lv (.int x :: st) S I cl sl := fun l D cA z p e R s m args below meth c Qf hX C H locs ls hR hS hL => lv_tableIn C.1 C.2.1 hd h1 h2 ho ht (k l D cA z p e R s m args below meth c Qf hX C H locs ls hR hS hL)
theorem mm_tableOut {X : mm_X} {M : mm_M} {mc ms pc : Nat} {lv : List (Nat × Value)} {st : List Value} {S : mm_S} {I : mm_I} {cl sl : Nat} {dflt lo hi : Int} {offs : Array Int} {len : Nat} {x : Int32} (tgt : Nat) (hd : decode M.2.2.1 pc = .ok (.tableswitch dflt lo hi offs, len)) (h : x.toInt < lo ∨ hi < x.toInt) (ht : (pc : Int) + dflt = (tgt : Int)) (k : mm_G X M mc ms tgt lv st S I cl sl) : mm_G X M mc ms pc lv (.int x :: st) S I cl sl := fun l D cA z p e R s m args below meth c Qf hX C H locs ls hR hS hL => lv_tableOut C.1 C.2.1 hd h ht (k l D cA z p e R s m args below meth c Qf hX C H locs ls hR hS hL)
theorem mm_lookup {X : mm_X} {M : mm_M} {mc ms pc : Nat} {lv : List (Nat × Value)} {st : List Value} {S : mm_S} {I : mm_I} {cl sl : Nat} {dflt : Int} {ps : Array (Int × Int)} {len : Nat} {x : Int32} {off : Int} (tgt : Nat) (hd : decode M.2.2.1 pc = .ok (.lookupswitch dflt ps, len)) (hp : (ps.toList.zip (ps.toList.drop 1)).all (fun (a, next) => a.1 < next.1) = true) (ho : Op.lookupswitch.offset ps.toList dflt x.toInt = off) (ht : (pc : Int) + off = (tgt : Int)) (k : mm_G X M mc ms tgt lv st S I cl sl) : mm_G X M mc ms pc lv (.int x :: st) S I cl sl := fun l D cA z p e R s m args below meth c Qf hX C H locs ls hR hS hL => lv_lookup C.1 C.2.1 hd hp ho ht (k l D cA z p e R s m args below meth c Qf hX C H locs ls hR hS hL)
section mmRows
variable {X : mm_X} {M : mm_M} {mc ms pc : Nat} {lv : List (Nat × Value)} {st : List Value} {S : mm_S} {I : mm_I} {cl sl : Nat}
theorem mm_topi {x : Int32} (k : ∀ y : Int32, y = x → mm_G X M mc ms pc lv (.int y :: st) S I cl sl) : mm_G X M mc ms pc lv (.int x :: st) S I cl sl := k x rfl
theorem mm_ldc {index : Nat} {v : Int32} (hd : decode M.2.2.1 pc = .ok (.ldc index, 2)) (hw : Cond.constant M.1 index v ∈ mw_all) (k : mm_G X M mc ms (pc + 2) lv (.int v :: st) S I cl sl) : mm_G X M mc ms pc lv st S I cl sl := fun l D cA z p e R s m args below meth c Qf hX C H locs ls hR hS hL =>
  lv_ldc C.1 C.2.1 C.2.2.2.1 (C.2.2.2.2.1 _ hw) hd (k l D cA z p e R s m args below meth c Qf hX C H locs ls hR hS hL)
theorem mm_ldcf {index : Nat} {v : UInt32} (hd : decode M.2.2.1 pc = .ok (.ldc index, 2)) (hw : Cond.constantFloat M.1 index v ∈ mw_all) (k : mm_G X M mc ms (pc + 2) lv (.float v :: st) S I cl sl) : mm_G X M mc ms pc lv st S I cl sl := fun l D cA z p e R s m args below meth c Qf hX C H locs ls hR hS hL =>
  lv_ldcf C.1 C.2.1 C.2.2.2.1 (C.2.2.2.2.1 _ hw) hd (k l D cA z p e R s m args below meth c Qf hX C H locs ls hR hS hL)
theorem mm_iinc {i : Nat} {n : Int} {x : Int32} (v : Int32) (hd : decode M.2.2.1 pc = .ok (.iinc i n, 3)) (hl : mm_get lv i = some (.int x)) (hv : Int32.ofInt n = v) (hn : i < M.2.2.2.1) (k : mm_G X M mc ms (pc + 3) ((i, .int (x + v)) :: lv) st S I cl sl) : mm_G X M mc ms pc lv st S I cl sl := by
  intro l D cA z p e R s m args below meth c Qf hX C H locs ls hR hS hL
  subst hv
  obtain ⟨l1, h1, h2⟩ := id hL
  obtain ⟨j, hj⟩ := List.getElem?_of_mem (h2 i _ hl).1
  refine lv_iinc C.1 C.2.1 hd h1 (k := j) hj rfl hn rfl (fun ls2 h3 => k l D cA z p e R s m args below meth c Qf hX C H locs ls2 hR hS ?_)
  refine ⟨_, h3, fun k w hk => ?_⟩
  rcases mm_get_hd hk with ⟨rfl, rfl⟩ | ⟨hne, hk2⟩
  · exact ⟨List.mem_cons_self, rfl⟩
  · obtain ⟨h4, h5⟩ := h2 k w hk2
    refine ⟨List.mem_cons_of_mem _ (List.mem_filter.mpr ⟨h4, ?_⟩), h5⟩
    simp [hne, h5]
-- fields
def mm_F (own : String) (idx ci k : Nat) : Prop := ci < 9 ∧ k < mm_cn ci ∧ Cond.fieldLink own idx (mm_cT ci k).1 (mm_cT ci k).2.1 (mm_cT ci k).2.2.1 ∈ mw_all
theorem mm_fv_at {cA : Nat → ClassId} {z a ci : Nat} {D : va_G} {H : Heap} (hR : mm_R D cA z S I H) (hc : ci < 9) (ha : (S.2.1 a).1 = ci) : (mm_w cA z S I)[a - z]? = some (a, .inr (ci, (List.range (mm_cn ci)).map (fun k => mm_fv S I a ci k))) := by
  rw [hR.at (by omega), mm_e_obj ha hc]
theorem mm_fv_k {a ci k : Nat} (hk : k < mm_cn ci) : ((List.range (mm_cn ci)).map (fun k => mm_fv S I a ci k))[k]? = some (mm_fv S I a ci k) := by
  rw [List.getElem?_map, List.getElem?_range hk]
  rfl
theorem mm_getI {idx ci k a : Nat} (hd : decode M.2.2.1 pc = .ok (.getfield idx, 3)) (hf : mm_F M.1 idx ci k) (hi : mm_int ci k = true) (ha : (S.2.1 a).1 = ci) (kk : mm_G X M mc ms (pc + 3) lv (.int (I a k) :: st) S I cl sl) : mm_G X M mc ms pc lv (.ref a :: st) S I cl sl := fun l D cA z p e R s m args below meth c Qf hX C H locs ls hR hS hL =>
  va_get C.1 C.2.1 C.2.2.2.2.1 (mm_cw ci hf.1) C.2.2.2.1 C.2.2.2.2.2.2.2.1.1 hR.1 (a - z) (mm_fv_at hR hf.1 ha) (mm_ccl ci hf.1) k hf.2.1 (C.2.2.2.2.1 _ hf.2.2) (fun _ h => h) (v := .int (I a k)) (by rw [mm_fv_k hf.2.1, mm_fv, if_pos hi]) hd (kk l D cA z p e R s m args below meth c Qf hX C H locs ls hR hS hL)
theorem mm_getR {idx ci k a : Nat} {b : Nat} (hd : decode M.2.2.1 pc = .ok (.getfield idx, 3)) (hf : mm_F M.1 idx ci k) (hi : mm_int ci k = false) (ha : (S.2.1 a).1 = ci) (hr : S.2.2 a k = some b) (kk : mm_G X M mc ms (pc + 3) lv (.ref b :: st) S I cl sl) : mm_G X M mc ms pc lv (.ref a :: st) S I cl sl := fun l D cA z p e R s m args below meth c Qf hX C H locs ls hR hS hL =>
  va_get C.1 C.2.1 C.2.2.2.2.1 (mm_cw ci hf.1) C.2.2.2.1 C.2.2.2.2.2.2.2.1.1 hR.1 (a - z) (mm_fv_at hR hf.1 ha) (mm_ccl ci hf.1) k hf.2.1 (C.2.2.2.2.1 _ hf.2.2) (fun _ h => h) (v := .ref b) (by rw [mm_fv_k hf.2.1, mm_fv, if_neg (by rw [hi]; decide), hr]; rfl) hd (kk l D cA z p e R s m args below meth c Qf hX C H locs ls hR hS hL)
theorem mm_R.wrI {D : va_G} {cA : Nat → ClassId} {z : Nat} {H H1 : Heap} {a k : Nat} {x : Int32} (hR : mm_R D cA z S I H) (ha : (S.2.1 a).1 < 12) (hP : va_P D vwCl (mm_w cA z S (mm_wr I a k x)) H1) (hz : H1.size = H.size) : mm_R D cA z S (mm_wr I a k x) H1 := by
  refine ⟨hP, by rw [hz, hR.2.1], hR.2.2.1, hR.2.2.2.1, fun b hb j => ?_⟩
  have h1 := (hR.lt ha).2
  rw [mm_wr_a (by omega)]
  exact hR.2.2.2.2 b hb j
theorem mm_fs_set {a ci k : Nat} {x : Int32} (hi : mm_int ci k = true) : ((List.range (mm_cn ci)).map (fun k => mm_fv S I a ci k)).set k (.int x) = (List.range (mm_cn ci)).map (fun j => mm_fv S (mm_wr I a k x) a ci j) := by
  apply List.ext_getElem?
  intro j
  by_cases hj : j < mm_cn ci
  · by_cases hk : j = k
    · subst hk
      rw [List.getElem?_set_self (by simpa using hj), List.getElem?_map, List.getElem?_range hj]
      simp [mm_fv, hi, mm_wr]
    · rw [List.getElem?_set_ne (Ne.symm hk), List.getElem?_map, List.getElem?_map, List.getElem?_range hj]
      simp [mm_fv, mm_wr, hk]
  · rw [List.getElem?_eq_none (by simp; omega), List.getElem?_eq_none (by simp; omega)]
theorem mm_put0 {idx ci k a : Nat} {x : Int32} (hd : decode M.2.2.1 pc = .ok (.putfield idx, 3)) (hf : mm_F M.1 idx ci k) (hi : mm_int ci k = true) (hfin : (mm_cT ci k).2.2.2 = false) (hn : narrow (mm_cy ci k) (.int x) = .int x) (hfit : fits (mm_cy ci k) (.int x) = true) (ha : (S.2.1 a).1 = ci) (kk : mm_G X M mc ms (pc + 3) lv st S (mm_wr I a k x) cl sl) : mm_G X M mc ms pc lv (.int x :: .ref a :: st) S I cl sl := by
  intro l D cA z p e R s m args below meth c Qf hX C H locs ls hR hS hL
  have hlt := hR.lt (a := a) (by have := hf.1; omega)
  have hat := mm_fv_at hR hf.1 ha
  have hK := C.2.2.2.2.2.2.2.1.1
  have hts := C.2.2.2.2.1
  have hcl := mm_ccl ci hf.1
  have hap := va_apart (own := M.1) hts (mm_cw ci hf.1) (mm_cy ci) (mm_cty ci hf.1) (mm_cnm ci hf.1) hK hcl
  obtain ⟨r, h1, cell, q1, q2, q3, q4⟩ := hR.1 _ _ hat
  have hr : r = (mm_cR ci, mm_cT ci, mm_cn ci) := Option.some.inj (h1.symm.trans hcl)
  subst hr
  obtain ⟨hSl, hfc, kC, hkC, hkind⟩ := hK.1 ci _ hcl
  obtain ⟨cf, kf, fi, f, hif, hsl⟩ := hSl k hf.2.1
  have hlay := hts _ (mm_cw ci hf.1 _ (u_in_lay hf.2.1))
  unfold u_lay at hlay
  rw [if_neg (by rw [hfin]; decide)] at hlay
  have hst := (u_facts hfc hkC (u_lays hts (mm_cw ci hf.1) hf.2.1) hif).1
  have h6 := u_store hfc hkC hkind hlay hif (mm_cty ci hf.1 k hf.2.1) hn hfit
  refine W.putK C.1 C.2.1 (f := f) ⟨C.2.2.2.1, hts _ hf.2.2, ⟨_, _, _, hif⟩, hst⟩ (by rw [q2]; exact h6) q1 q3 (by rw [hsl]; exact k2_hasslot (q4 k hf.2.1)) rfl rfl hd fun H' e1 e2 e3 => ?_
  rw [hsl] at e1 ⊢
  have hP1 := hR.1.set mm_w_D hat (e := .inr (ci, ((List.range (mm_cn ci)).map (fun k => mm_fv S I a ci k)).set k (.int x))) ⟨_, hcl, t_OB.to (V := updV (vp_V ((List.range (mm_cn ci)).map (fun k => mm_fv S I a ci k))) k (.int x)) ⟨_, e1, q2, q3, t_set q4 hap hf.2.1 (.int x)⟩ (fun j _ => vp_updV_set (by simpa using hf.2.1) (.int x) j)⟩ e3
  rw [mm_fs_set hi, mm_w_set (S' := S) (I' := mm_wr I a k x) hlt.1 hlt.2 rfl (mm_e_obj ha hf.1) (fun b hb => mm_e_I (mm_wr_row hb))] at hP1
  exact kk l D cA z p e R s m args below meth c Qf hX C H' _ ls (hR.wrI (by have := hf.1; omega) hP1 e2) (hS.put e2 e3 hlt.1) hL
theorem mm_putI {idx ci k a : Nat} {x : Int32} (hd : decode M.2.2.1 pc = .ok (.putfield idx, 3)) (hf : mm_F M.1 idx ci k) (hi : mm_cy ci k = .int) (hfin : (mm_cT ci k).2.2.2 = false) (ha : (S.2.1 a).1 = ci) (kk : mm_G X M mc ms (pc + 3) lv st S (mm_wr I a k x) cl sl) : mm_G X M mc ms pc lv (.int x :: .ref a :: st) S I cl sl :=
  mm_put0 hd hf (by unfold mm_int; rw [hi]) hfin (by rw [hi]; rfl) (by rw [hi]; rfl) ha kk
theorem mm_putZ {idx ci k a : Nat} {x : Int32} (hd : decode M.2.2.1 pc = .ok (.putfield idx, 3)) (hf : mm_F M.1 idx ci k) (hi : mm_cy ci k = .boolean) (hfin : (mm_cT ci k).2.2.2 = false) (hx : x = 0 ∨ x = 1) (ha : (S.2.1 a).1 = ci) (kk : mm_G X M mc ms (pc + 3) lv st S (mm_wr I a k x) cl sl) : mm_G X M mc ms pc lv (.int x :: .ref a :: st) S I cl sl :=
  mm_put0 hd hf (by unfold mm_int; rw [hi]) hfin (by rw [hi]; rcases hx with rfl | rfl <;> rfl) (by rw [hi]; rcases hx with rfl | rfl <;> rfl) ha kk
theorem mm_fs_setR {a ci k : Nat} {x : Option Nat} (hi : mm_int ci k = false) : ((List.range (mm_cn ci)).map (fun k => mm_fv S I a ci k)).set k (va_rf x) = (List.range (mm_cn ci)).map (fun j => mm_fv (S.1, S.2.1, mm_wp S.2.2 a k x) I a ci j) := by
  apply List.ext_getElem?
  intro j
  by_cases hj : j < mm_cn ci
  · by_cases hk : j = k
    · subst hk
      rw [List.getElem?_set_self (by simpa using hj), List.getElem?_map, List.getElem?_range hj]
      simp [mm_fv, hi, mm_wp]
    · rw [List.getElem?_set_ne (Ne.symm hk), List.getElem?_map, List.getElem?_map, List.getElem?_range hj]
      simp [mm_fv, mm_wp, hk]
  · rw [List.getElem?_eq_none (by simp; omega), List.getElem?_eq_none (by simp; omega)]
theorem mm_e_P {cA : Nat → ClassId} {a k b : Nat} {x : Option Nat} (hb : b ≠ a) : mm_e cA (S.1, S.2.1, mm_wp S.2.2 a k x) I b = mm_e cA S I b := by
  have h : mm_wp S.2.2 a k x b = S.2.2 b := by funext j; simp [mm_wp, hb]
  unfold mm_e mm_fv
  simp only [h]
/-- a final reference field, in its constructor -/
theorem mm_putR {idx ci k a b : Nat} {ty : FieldType} (hd : decode M.2.2.1 pc = .ok (.putfield idx, 3)) (hf : mm_F M.1 idx ci k) (hy : mm_cy ci k = ty) (hty : (∃ n, ty = .object n) ∨ ∃ t, ty = .array t) (hfin : (mm_cT ci k).2.2.2 = true) (hin : M.2.1.name = "<init>") (hdecl : (mm_cT ci k).1 = M.1) (ha : (S.2.1 a).1 = ci) (kk : mm_G X M mc ms (pc + 3) lv st (S.1, S.2.1, mm_wp S.2.2 a k (some b)) I cl sl) : mm_G X M mc ms pc lv (.ref b :: .ref a :: st) S I cl sl := by
  intro l D cA z p e R s m args below meth c Qf hX C H locs ls hR hS hL
  have hi : mm_int ci k = false := by unfold mm_int; rw [hy]; rcases hty with ⟨n, rfl⟩ | ⟨t, rfl⟩ <;> rfl
  have hn : narrow (mm_cy ci k) (.ref b) = .ref b := by rw [hy]; rcases hty with ⟨n, rfl⟩ | ⟨t, rfl⟩ <;> rfl
  have hfit : fits (mm_cy ci k) (.ref b) = true := by rw [hy]; rcases hty with ⟨n, rfl⟩ | ⟨t, rfl⟩ <;> rfl
  have hlt := hR.lt (a := a) (by have := hf.1; omega)
  have hat := mm_fv_at hR hf.1 ha
  have hK := C.2.2.2.2.2.2.2.1.1
  have hts := C.2.2.2.2.1
  have hcl := mm_ccl ci hf.1
  have hap := va_apart (own := M.1) hts (mm_cw ci hf.1) (mm_cy ci) (mm_cty ci hf.1) (mm_cnm ci hf.1) hK hcl
  obtain ⟨r, h1, cell, q1, q2, q3, q4⟩ := hR.1 _ _ hat
  have hr : r = (mm_cR ci, mm_cT ci, mm_cn ci) := Option.some.inj (h1.symm.trans hcl)
  subst hr
  obtain ⟨hSl, hfc, kC, hkC, hkind⟩ := hK.1 ci _ hcl
  obtain ⟨cf, kf, fi, f, hif, hsl⟩ := hSl k hf.2.1
  have hlay := hts _ (mm_cw ci hf.1 _ (u_in_lay hf.2.1))
  unfold u_lay at hlay
  rw [if_pos hfin] at hlay
  have hst := (u_facts hfc hkC (u_lays hts (mm_cw ci hf.1) hf.2.1) hif).1
  have hcf : m.cls = cf := by
    obtain ⟨_, _, c', _, _, _, -, -, hf', -, -, -, hown2, -⟩ := Cond.laysFinal_spec hlay
    have e1 : c' = cf := by have := hif.symm.trans hf'; simp at this; exact this.1.symm
    rw [hdecl] at hown2
    rw [← e1]; exact Option.some.inj (C.2.2.2.1.symm.trans hown2)
  have h6 := u_fits hfc hkC hkind (Or.inr hlay) hif (mm_cty ci hf.1 k hf.2.1) hn hfit
  refine W.putFinK C.1 C.2.1 C.2.2.2.1 (hts _ hf.2.2) hif hst hcf (C.2.2.2.2.2.2.2.2.1.trans hin) (by rw [q2]; exact h6) q1 q3 (by rw [hsl]; exact k2_hasslot (q4 k hf.2.1)) rfl rfl hd fun H' e1 e2 e3 => ?_
  rw [hsl] at e1 ⊢
  have hP1 := hR.1.set mm_w_D hat (e := .inr (ci, ((List.range (mm_cn ci)).map (fun k => mm_fv S I a ci k)).set k (.ref b))) ⟨_, hcl, t_OB.to (V := updV (vp_V ((List.range (mm_cn ci)).map (fun k => mm_fv S I a ci k))) k (.ref b)) ⟨_, e1, q2, q3, t_set q4 hap hf.2.1 (.ref b)⟩ (fun j _ => vp_updV_set (by simpa using hf.2.1) (.ref b) j)⟩ e3
  rw [show Value.ref b = va_rf (some b) from rfl, mm_fs_setR hi, mm_w_set (S' := (S.1, S.2.1, mm_wp S.2.2 a k (some b))) (I' := I) hlt.1 hlt.2 rfl (mm_e_obj ha hf.1) (fun b hb => mm_e_P hb)] at hP1
  refine kk l D cA z p e R s m args below meth c Qf hX C H' _ ls ⟨hP1, by rw [e2, hR.2.1], hR.2.2.1, hR.2.2.2.1, fun q hq j => ⟨(hR.2.2.2.2 q hq j).1, ?_⟩⟩ (hS.put e2 e3 hlt.1) hL
  show mm_wp S.2.2 a k (some b) q j = none
  have : q ≠ a := by have h9 : S.1 ≤ q := hq; omega
  simp only [mm_wp, this, false_and, if_false]
  exact (hR.2.2.2.2 q hq j).2
-- arrays
theorem mm_alen {a t n : Nat} (hd : decode M.2.2.1 pc = .ok (.arraylength, 1)) (ha : S.2.1 a = (t + 9, n)) (ht : t < 3) (v : Int32) (hv : Int32.ofNat n = v) (kk : mm_G X M mc ms (pc + 1) lv (.int v :: st) S I cl sl) : mm_G X M mc ms pc lv (.ref a :: st) S I cl sl := by
  intro l D cA z p e R s m args below meth c Qf hX C H locs ls hR hS hL
  have hat := hR.at (a := a) (by rw [ha]; show t + 9 < 12; omega)
  have hK := C.2.2.2.2.2.2.2.1.1
  subst hv
  rcases (show t = 0 ∨ t = 1 ∨ t = 2 by omega) with rfl | rfl | rfl
  · rw [mm_e_int ha] at hat
    exact va_alen C.1 C.2.1 hK hR.1 (a - z) 0 hat rfl rfl hd (kk l D cA z p e R s m args below meth c Qf hX C H locs ls hR hS hL)
  · rw [mm_e_ref (t := 0) ha] at hat
    exact va_alen C.1 C.2.1 hK hR.1 (a - z) 1 hat rfl rfl hd (kk l D cA z p e R s m args below meth c Qf hX C H locs ls hR hS hL)
  · rw [mm_e_ref (t := 1) ha] at hat
    exact va_alen C.1 C.2.1 hK hR.1 (a - z) 2 hat rfl rfl hd (kk l D cA z p e R s m args below meth c Qf hX C H locs ls hR hS hL)
theorem mm_iald {a n : Nat} {i : Int32} (hd : decode M.2.2.1 pc = .ok (.iaload, 1)) (ha : S.2.1 a = (9, n)) (hi : vp_in i n) (kk : mm_G X M mc ms (pc + 1) lv (.int (I a i.toNatClampNeg) :: st) S I cl sl) : mm_G X M mc ms pc lv (.int i :: .ref a :: st) S I cl sl := by
  intro l D cA z p e R s m args below meth c Qf hX C H locs ls hR hS hL
  have hat := hR.at (a := a) (by rw [ha]; exact Nat.le_of_ble_eq_true rfl)
  rw [mm_e_int ha] at hat
  exact va_iald C.1 C.2.1 C.2.2.2.2.2.2.2.1.1 hR.1 (a - z) 0 hat rfl hi hd (kk l D cA z p e R s m args below meth c Qf hX C H locs ls hR hS hL)
theorem mm_iast {a n : Nat} {i x : Int32} (hd : decode M.2.2.1 pc = .ok (.iastore, 1)) (ha : S.2.1 a = (9, n)) (hi : vp_in i n) (kk : mm_G X M mc ms (pc + 1) lv st S (mm_wr I a i.toNatClampNeg x) cl sl) : mm_G X M mc ms pc lv (.int x :: .int i :: .ref a :: st) S I cl sl := by
  intro l D cA z p e R s m args below meth c Qf hX C H locs ls hR hS hL
  have hlt := hR.lt (a := a) (by rw [ha]; exact Nat.le_of_ble_eq_true rfl)
  have hat := hR.at (a := a) (by rw [ha]; exact Nat.le_of_ble_eq_true rfl)
  rw [mm_e_int ha] at hat
  have hK := C.2.2.2.2.2.2.2.1.1
  refine W.iast C.1 C.2.1 (hR.1 _ _ hat) ((hK.2 0 _ rfl).1 n (fun j => .int (I a j))) (fun q => by cases q) (by show ¬ (i < 0 ∨ (arrV _ _ _).slots.size ≤ _); rw [arrV_size]; exact hi) rfl rfl hd fun H1 e9 z1 oq => ?_
  have hP1 := hR.1.set mm_w_D hat (e := .inl (cA 0, n, .inl (upd (I a) i.toNatClampNeg x))) (by
    show H1[a]? = some (vp_cell _ _)
    rw [e9]
    rw [vp_cell_i, vp_cell_i, arrV_store]
    congr 2
    funext q
    by_cases hq : q = i.toNatClampNeg
    · subst hq
      simp [updV, upd]
    · simp [updV, upd, hq]) oq
  rw [mm_w_set (S' := S) (I' := mm_wr I a i.toNatClampNeg x) hlt.1 hlt.2 rfl (by rw [mm_e_int ha, mm_wr_upd]) (fun b hb => mm_e_I (mm_wr_row hb))] at hP1
  exact kk l D cA z p e R s m args below meth c Qf hX C H1 _ ls (hR.wrI (by rw [ha]; exact Nat.le_of_ble_eq_true rfl) hP1 z1) (hS.put z1 oq hlt.1) hL
theorem mm_aald {a n t : Nat} {i : Int32} (r : Option Nat) (hd : decode M.2.2.1 pc = .ok (.aaload, 1)) (ha : S.2.1 a = (t + 10, n)) (ht : t < 2) (hi : vp_in i n) (hr : S.2.2 a i.toNatClampNeg = r) (kk : mm_G X M mc ms (pc + 1) lv (va_rf r :: st) S I cl sl) : mm_G X M mc ms pc lv (.int i :: .ref a :: st) S I cl sl := by
  intro l D cA z p e R s m args below meth c Qf hX C H locs ls hR hS hL
  subst hr
  have hat := hR.at (a := a) (by rw [ha]; show t + 10 < 12; omega)
  have hK := C.2.2.2.2.2.2.2.1.1
  rw [mm_e_ref ha] at hat
  rcases (show t = 0 ∨ t = 1 by omega) with rfl | rfl
  · exact va_aldq C.1 C.2.1 hK hR.1 (a - z) 1 hat rfl hi hd (kk l D cA z p e R s m args below meth c Qf hX C H locs ls hR hS hL)
  · exact va_aldq C.1 C.2.1 hK hR.1 (a - z) 2 hat rfl hi hd (kk l D cA z p e R s m args below meth c Qf hX C H locs ls hR hS hL)
-- returns
theorem mm_iret {Q : Option Value → mm_S → mm_I → Prop} {v : Int32} (hd : decode M.2.2.1 pc = .ok (.ireturn, 1)) (hr : M.2.2.2.2.1 = some .int) (hq : Q (some (.int v)) S I) : mm_G (mm_XM mc ms Q) M mc ms pc lv [.int v] S I mc ms := by
  intro l D cA z p e R s m args below meth c Qf hX C H locs ls hR hS hL
  have hlocks := C.2.2.2.2.2.2.1
  rw [hX]
  exact W.iret C.1 C.2.1 (C.2.2.2.2.2.1.trans hr) (fun t ht hW => ⟨⟨_, S, I, rfl, hq, by rw [ht]; exact hR⟩, hS.F ht⟩) hS.2.2 hd hlocks
theorem mm_zret {Q : Option Value → mm_S → mm_I → Prop} {v : Int32} (hd : decode M.2.2.1 pc = .ok (.ireturn, 1)) (hr : M.2.2.2.2.1 = some .boolean) (hv : v = 0 ∨ v = 1) (hq : Q (some (.int v)) S I) : mm_G (mm_XM mc ms Q) M mc ms pc lv [.int v] S I mc ms := by
  intro l D cA z p e R s m args below meth c Qf hX C H locs ls hR hS hL
  have hlocks := C.2.2.2.2.2.2.1
  rw [hX]
  exact W.zret C.1 C.2.1 (C.2.2.2.2.2.1.trans hr) (by rcases hv with rfl | rfl <;> rfl) (fun t ht hW => ⟨⟨_, S, I, rfl, hq, by rw [ht]; exact hR⟩, hS.F ht⟩) hS.2.2 hd hlocks
theorem mm_vret {Q : Option Value → mm_S → mm_I → Prop} (hd : decode M.2.2.1 pc = .ok (.return_, 1)) (hr : M.2.2.2.2.1 = none) (hq : Q none S I) : mm_G (mm_XM mc ms Q) M mc ms pc lv [] S I mc ms := by
  intro l D cA z p e R s m args below meth c Qf hX C H locs ls hR hS hL
  have hlocks := C.2.2.2.2.2.2.1
  rw [hX]
  exact W.vret C.1 C.2.1 (C.2.2.2.2.2.1.trans hr) (fun t ht hW => ⟨⟨_, S, I, rfl, hq, by rw [ht]; exact hR⟩, hS.F ht⟩) hS.2.2 hd hlocks
theorem mm_aret {Q : Option Value → mm_S → mm_I → Prop} {n : String} {r : Option Nat} {v : Value} (hd : decode M.2.2.1 pc = .ok (.areturn, 1)) (hr : M.2.2.2.2.1 = some (.object n)) (hv : v = va_rf r) (hq : Q (some v) S I) : mm_G (mm_XM mc ms Q) M mc ms pc lv [v] S I mc ms := by
  intro l D cA z p e R s m args below meth c Qf hX C H locs ls hR hS hL
  have hlocks := C.2.2.2.2.2.2.1
  rw [hX]
  exact W.aret C.1 C.2.1 (C.2.2.2.2.2.1.trans hr) (Or.inl ⟨n, rfl⟩) (by rw [hv]; cases r; exact Or.inl rfl; exact Or.inr ⟨_, rfl⟩) (fun t ht hW => ⟨⟨_, S, I, rfl, hq, by rw [ht]; exact hR⟩, hS.F ht⟩) hS.2.2 hd hlocks
-- calls
theorem mm_go {l : Launch} {D : va_G} {cA : Nat → ClassId} {z : Nat} {p : Program} {e : Env} {R : Room} {s : State} {m : MethodId} {args : Array Value} {below : List Frame} {meth : Method} {c : Code} {Qf : State → Prop} {H : Heap} {locs : List Loc} {ls : Array Slot} {st0 rest : List Value} {mc' ms' : Nat} {Qc : Option Value → mm_S → mm_I → Prop} {a : Array Value}
    (hr : va_Run p l e R s m args below meth c H locs cl sl mc' ms' (F0 m pc ls st0) rest (mm_Q D cA z Qc a) (fun q => z ≤ q)) (hS : va_S (fun q => z ≤ q) s.heap H locs)
    (kk : ∀ (v : Option Value) (S' : mm_S) (I' : mm_I) (H1 : Heap) (locs1 : List Loc), Qc v S' I' → mm_R D cA z S' I' H1 → va_S (fun q => z ≤ q) s.heap H1 locs1 → W p l e R s m args below meth c H1 locs1 (cl + mc') (sl + ms') Qf (F0 m (pc + 3) ls (v.toList ++ rest))) : W p l e R s m args below meth c H locs cl sl Qf (F0 m pc ls st0) := by
  intro T hT Y
  obtain ⟨v, st₀, t, T', L, h0, Y', hL, e1, e2, ⟨⟨v', S', I', hv, hq, hR⟩, hz, hk⟩, st⟩ := hr T hT Y
  cases hv
  rw [h0] at hz hk
  obtain ⟨t2, a1, b1⟩ := kk v S' I' T'.heap (locs ++ L) hq (by rw [e1]; exact hR)
    ⟨Nat.le_trans hS.1 (by rw [e1]; exact hz), fun q h1 h2 => by rw [e1, hk q (Nat.lt_of_lt_of_le h1 hS.1) h2]; exact hS.2.1 q h1 h2, fun q hq => by
      rcases List.mem_append.mp hq with h | h
      · exact hS.2.2 q h
      · exact hL q h⟩ T' rfl Y'
  exact ⟨t2, st t2 a1, b1⟩
def mm_LV (own : String) (idx : Nat) (y : MethodName) : Prop := Cond.methodLink own idx y ∈ mw_all ∧ Cond.instanceMethod y ∈ mw_all ∧ Cond.selects y.cls y y ∈ mw_all
def mm_LS (own : String) (idx : Nat) (y : MethodName) : Prop := Cond.methodLink own idx y ∈ mw_all ∧ Cond.static y ∈ mw_all
def mm_LSN (own : String) (idx : Nat) (y : MethodName) : Prop := Cond.methodLinkNest own idx y "WineFutures" ∈ mw_nest ∧ Cond.static y ∈ mw_all
def mm_LI (own : String) (idx : Nat) (y : MethodName) : Prop := Cond.methodLink own idx y ∈ mw_all ∧ Cond.instanceMethod y ∈ mw_all ∧ y.name = "<init>"
def mm_LIN (own : String) (idx : Nat) (y : MethodName) : Prop := Cond.methodLinkNest own idx y "WineFutures" ∈ mw_nest ∧ Cond.instanceMethod y ∈ mw_all ∧ y.name = "<init>"
theorem mm_PreS {D : va_G} {cA : Nat → ClassId} {z : Nat} {s : State} {H : Heap} {as : List Value} (hR : mm_R D cA z S I H) (hK : mm_K D cA s) : PreS s H (mm_P D cA z as S I) as :=
  ⟨fun a U g mk q => ⟨q.1, q.2.1, mm_K.calling q.2.2⟩, fun U hU hW => ⟨rfl, by rw [hU]; exact hR, mm_K.moved hW hK⟩⟩
theorem mm_PreV {D : va_G} {cA : Nat → ClassId} {z ci a : Nat} {s : State} {H : Heap} {as : List Value} (hR : mm_R D cA z S I H) (hK : mm_K D cA s) (hc : ci < 9) (ha : (S.2.1 a).1 = ci) : PreV s H (mm_cR ci) a (mm_P D cA z (.ref a :: as) S I) as :=
  ⟨fun a U g mk q => ⟨q.1, q.2.1, mm_K.calling q.2.2⟩, va_recv hK.1 hR.1 (mm_ccl ci hc) (mm_fv_at hR hc ha), fun U hU hW => ⟨rfl, by rw [hU]; exact hR, mm_K.moved hW hK⟩⟩
theorem mm_room {N : mm_M} {R : Room} (h1 : N.2.2.2.2.2 + 1 ≤ M.2.2.2.2.2) (h2 : N.2.2.2.1 ≤ 11) (h3 : M.2.2.2.2.2 ≤ R.frames) (h4 : 30 * M.2.2.2.2.2 ≤ R.locals) : (mm_rm N mc ms).frames + 1 ≤ R.frames ∧ 8 + (N.2.2.2.1 + 11) + (mm_rm N mc ms).locals ≤ R.locals := by
  show N.2.2.2.2.2 + 1 ≤ R.frames ∧ 8 + (N.2.2.2.1 + 11) + 30 * N.2.2.2.2.2 ≤ R.locals
  omega
theorem mm_Vm {N : mm_M} {n idx ci a mc' ms' : Nat} {as rest st0 : List Value} {Qc : Option Value → mm_S → mm_I → Prop} (hd : decode M.2.2.1 pc = .ok (.invokevirtual idx, 3)) (hl : mm_LV M.1 idx N.2.1) (hN : mm_ok N n) (hlev : N.2.2.2.2.2 + 1 ≤ M.2.2.2.2.2) (hn : as.length = n) (hc : ci < 9) (hcy : mm_cR ci = N.2.1.cls) (ha : (S.2.1 a).1 = ci) (hst : st0 = as.reverse ++ .ref a :: rest) (hw : (rest.map fun v => v.category).sum ≤ 8) (hct : mm_Ct N mc' ms' (.ref a :: as) S I Qc) (hcl : cl + mc' ≤ mc) (hsl : sl + ms' ≤ ms)
    (kk : ∀ v S' I', Qc v S' I' → mm_G X M mc ms (pc + 3) lv (v.toList ++ rest) S' I' (cl + mc') (sl + ms')) : mm_G X M mc ms pc lv st0 S I cl sl := by
  intro l D cA z p e R s m args below meth c Qf hX C H locs ls hR hS hL
  have hC := id C
  obtain ⟨hx, hb, hml, hown, hts, hret, hlocks, hK, hnm, ⟨hr1, hr2, hr3, hr4⟩, hz⟩ := hC
  subst hst
  have hrun := va_runV (e := e) (below := below) (meth := meth) (As := as) (rest := rest) (H := H) (locs := locs) (cells := cl) (slots := sl) (g := F0 m pc ls (as.reverse ++ .ref a :: rest)) (b := a) (C := mm_cR ci) (mc := mc') (ms := ms') ⟨hx, hb, hml, hown, hts⟩ (hct l D cA z)
    ⟨callB_of n hts (mw_goodIn hN.2.2.1) rfl rfl rfl (hts _ hN.2.2.2.2.2) (hts _ hl.1) hN.2.2.2.1 (mm_room hlev hN.2.2.2.2.1 hr1 hr2), hts _ hl.2.1, by rw [hcy]; exact hts _ hl.2.2⟩ (mm_PreV hR hK hc ha) rfl hn hL.has.1 rfl (lv_room hw) hd ⟨Nat.le_trans hcl hr3, Nat.le_trans hsl hr4⟩
  exact mm_go hrun hS (fun v S' I' H1 locs1 hq hR1 hS1 => kk v S' I' hq l D cA z p e R s m args below meth c Qf hX C H1 locs1 ls hR1 hS1 hL)
theorem mm_Sm {N : mm_M} {n idx mc' ms' : Nat} {as rest st0 : List Value} {Qc : Option Value → mm_S → mm_I → Prop} (hd : decode M.2.2.1 pc = .ok (.invokestatic idx, 3)) (hl : mm_LS M.1 idx N.2.1) (hN : mm_ok N n) (hlev : N.2.2.2.2.2 + 1 ≤ M.2.2.2.2.2) (hn : as.length = n) (hst : st0 = as.reverse ++ rest) (hw : (rest.map fun v => v.category).sum ≤ 8) (hct : mm_Ct N mc' ms' as S I Qc) (hcl : cl + mc' ≤ mc) (hsl : sl + ms' ≤ ms)
    (kk : ∀ v S' I', Qc v S' I' → mm_G X M mc ms (pc + 3) lv (v.toList ++ rest) S' I' (cl + mc') (sl + ms')) : mm_G X M mc ms pc lv st0 S I cl sl := by
  intro l D cA z p e R s m args below meth c Qf hX C H locs ls hR hS hL
  have hC := id C
  obtain ⟨hx, hb, hml, hown, hts, hret, hlocks, hK, hnm, ⟨hr1, hr2, hr3, hr4⟩, hz⟩ := hC
  subst hst
  have hrun := va_runS (e := e) (below := below) (meth := meth) (As := as) (rest := rest) (H := H) (locs := locs) (cells := cl) (slots := sl) (g := F0 m pc ls (as.reverse ++ rest)) (mc := mc') (ms := ms') ⟨hx, hb, hml, hown, hts⟩ (hct l D cA z)
    ⟨callB_of n hts (mw_goodIn hN.2.2.1) rfl rfl rfl (hts _ hN.2.2.2.2.2) (hts _ hl.1) hN.2.2.2.1 (mm_room hlev hN.2.2.2.2.1 hr1 hr2), hts _ hl.2⟩ (mm_PreS hR hK) rfl hn hL.has.1 rfl (lv_room hw) hd ⟨Nat.le_trans hcl hr3, Nat.le_trans hsl hr4⟩
  exact mm_go hrun hS (fun v S' I' H1 locs1 hq hR1 hS1 => kk v S' I' hq l D cA z p e R s m args below meth c Qf hX C H1 locs1 ls hR1 hS1 hL)
theorem mm_SNm {N : mm_M} {n idx mc' ms' : Nat} {as rest st0 : List Value} {Qc : Option Value → mm_S → mm_I → Prop} (hd : decode M.2.2.1 pc = .ok (.invokestatic idx, 3)) (hl : mm_LSN M.1 idx N.2.1) (hN : mm_ok N n) (hlev : N.2.2.2.2.2 + 1 ≤ M.2.2.2.2.2) (hn : as.length = n) (hst : st0 = as.reverse ++ rest) (hw : (rest.map fun v => v.category).sum ≤ 8) (hct : mm_Ct N mc' ms' as S I Qc) (hcl : cl + mc' ≤ mc) (hsl : sl + ms' ≤ ms)
    (kk : ∀ v S' I', Qc v S' I' → mm_G X M mc ms (pc + 3) lv (v.toList ++ rest) S' I' (cl + mc') (sl + ms')) : mm_G X M mc ms pc lv st0 S I cl sl := by
  intro l D cA z p e R s m args below meth c Qf hX C H locs ls hR hS hL
  have hC := id C
  obtain ⟨hx, hb, hml, hown, hts, hret, hlocks, hK, hnm, ⟨hr1, hr2, hr3, hr4⟩, hz⟩ := hC
  subst hst
  have hrun := va_runSN (e := e) (below := below) (meth := meth) (As := as) (rest := rest) (H := H) (locs := locs) (cells := cl) (slots := sl) (g := F0 m pc ls (as.reverse ++ rest)) (mc := mc') (ms := ms') ⟨hx, hb, hml, hown, hts⟩ (hct l D cA z)
    ⟨va_cnB n hts (mw_goodIn hN.2.2.1) rfl rfl rfl (hK.2.1 _ hl.1) (hts _ hN.2.2.2.2.2) hN.2.2.2.1 (mm_room hlev hN.2.2.2.2.1 hr1 hr2), hts _ hl.2, trivial⟩ (mm_PreS hR hK) rfl hn hL.has.1 rfl (lv_room hw) hd ⟨Nat.le_trans hcl hr3, Nat.le_trans hsl hr4⟩
  exact mm_go hrun hS (fun v S' I' H1 locs1 hq hR1 hS1 => kk v S' I' hq l D cA z p e R s m args below meth c Qf hX C H1 locs1 ls hR1 hS1 hL)
theorem mm_Im {N : mm_M} {n idx a mc' ms' : Nat} {as rest st0 : List Value} {Qc : Option Value → mm_S → mm_I → Prop} (hd : decode M.2.2.1 pc = .ok (.invokespecial idx, 3)) (hl : mm_LI M.1 idx N.2.1) (hrt : N.2.2.2.2.1 = none) (hN : mm_ok N n) (hlev : N.2.2.2.2.2 + 1 ≤ M.2.2.2.2.2) (hn : as.length = n) (hst : st0 = as.reverse ++ .ref a :: rest) (hw : (rest.map fun v => v.category).sum ≤ 8) (hct : mm_Ct N mc' ms' (.ref a :: as) S I Qc) (hcl : cl + mc' ≤ mc) (hsl : sl + ms' ≤ ms)
    (kk : ∀ v S' I', Qc v S' I' → mm_G X M mc ms (pc + 3) lv (v.toList ++ rest) S' I' (cl + mc') (sl + ms')) : mm_G X M mc ms pc lv st0 S I cl sl := by
  intro l D cA z p e R s m args below meth c Qf hX C H locs ls hR hS hL
  have hC := id C
  obtain ⟨hx, hb, hml, hown, hts, hret, hlocks, hK, hnm, ⟨hr1, hr2, hr3, hr4⟩, hz⟩ := hC
  subst hst
  have hM := hct l D cA z
  have hcode := hN.2.2.1
  rw [hrt] at hM hcode
  have hrun := va_runI (e := e) (below := below) (meth := meth) (As := as) (rest := rest) (H := H) (locs := locs) (cells := cl) (slots := sl) (g := F0 m pc ls (as.reverse ++ .ref a :: rest)) (b := a) (mc := mc') (ms := ms') ⟨hx, hb, hml, hown, hts⟩ hM
    ⟨callB_of n hts (mw_goodIn hcode) rfl rfl rfl (hts _ hN.2.2.2.2.2) (hts _ hl.1) hN.2.2.2.1 (mm_room hlev hN.2.2.2.2.1 hr1 hr2), hl.2.2, hts _ hl.2.1⟩ (mm_PreS hR hK) rfl hn hL.has.1 rfl (lv_room hw) hd ⟨Nat.le_trans hcl hr3, Nat.le_trans hsl hr4⟩
  exact mm_go hrun hS (fun v S' I' H1 locs1 hq hR1 hS1 => kk v S' I' hq l D cA z p e R s m args below meth c Qf hX C H1 locs1 ls hR1 hS1 hL)
theorem mm_INm {N : mm_M} {n idx a mc' ms' : Nat} {as rest st0 : List Value} {Qc : Option Value → mm_S → mm_I → Prop} (hd : decode M.2.2.1 pc = .ok (.invokespecial idx, 3)) (hl : mm_LIN M.1 idx N.2.1) (hrt : N.2.2.2.2.1 = none) (hN : mm_ok N n) (hlev : N.2.2.2.2.2 + 1 ≤ M.2.2.2.2.2) (hn : as.length = n) (hst : st0 = as.reverse ++ .ref a :: rest) (hw : (rest.map fun v => v.category).sum ≤ 8) (hct : mm_Ct N mc' ms' (.ref a :: as) S I Qc) (hcl : cl + mc' ≤ mc) (hsl : sl + ms' ≤ ms)
    (kk : ∀ v S' I', Qc v S' I' → mm_G X M mc ms (pc + 3) lv (v.toList ++ rest) S' I' (cl + mc') (sl + ms')) : mm_G X M mc ms pc lv st0 S I cl sl := by
  intro l D cA z p e R s m args below meth c Qf hX C H locs ls hR hS hL
  have hC := id C
  obtain ⟨hx, hb, hml, hown, hts, hret, hlocks, hK, hnm, ⟨hr1, hr2, hr3, hr4⟩, hz⟩ := hC
  subst hst
  have hM := hct l D cA z
  have hcode := hN.2.2.1
  rw [hrt] at hM hcode
  have hrun := va_runIN (e := e) (below := below) (meth := meth) (As := as) (rest := rest) (H := H) (locs := locs) (cells := cl) (slots := sl) (g := F0 m pc ls (as.reverse ++ .ref a :: rest)) (b := a) (mc := mc') (ms := ms') ⟨hx, hb, hml, hown, hts⟩ hM
    ⟨va_cnB n hts (mw_goodIn hcode) rfl rfl rfl (hK.2.1 _ hl.1) (hts _ hN.2.2.2.2.2) hN.2.2.2.1 (mm_room hlev hN.2.2.2.2.1 hr1 hr2), hl.2.2, hts _ hl.2.1⟩ (mm_PreS hR hK) rfl hn hL.has.1 rfl (lv_room hw) hd ⟨Nat.le_trans hcl hr3, Nat.le_trans hsl hr4⟩
  exact mm_go hrun hS (fun v S' I' H1 locs1 hq hR1 hS1 => kk v S' I' hq l D cA z p e R s m args below meth c Qf hX C H1 locs1 ls hR1 hS1 hL)
end mmRows
end
section
section mmAlloc
variable {X : mm_X} {M : mm_M} {mc ms pc : Nat} {lv : List (Nat × Value)} {st : List Value} {S : mm_S} {I : mm_I} {cl sl : Nat}
theorem mm_dflt : ∀ c, c < 9 → ∀ k, k < mm_cn c → defaultValue (mm_cy c k) = if mm_int c k = true then .int 0 else .null := mm_c9 (by decide) (by decide) (by decide) (by decide) (by decide) (by decide) (by decide) (by decide) (by decide)
abbrev mm_push (S : mm_S) (kd : Nat × Nat) : mm_S := (S.1 + 1, va_up S.2.1 S.1 kd, S.2.2)
theorem mm_e_push {cA : Nat → ClassId} {kd : Nat × Nat} {b : Nat} (hb : b < S.1) : mm_e cA (mm_push S kd) I b = mm_e cA S I b := by
  have h : va_up S.2.1 S.1 kd b = S.2.1 b := by simp [va_up, Nat.ne_of_lt hb]
  unfold mm_e mm_fv mm_push
  simp only [h]
theorem mm_push_at {kd : Nat × Nat} : (mm_push S kd).2.1 S.1 = kd := by simp [mm_push, va_up]
theorem mm_R.push {D : va_G} {cA : Nat → ClassId} {z : Nat} {H H1 : Heap} {kd : Nat × Nat} (hR : mm_R D cA z S I H) (hz : H1.size = H.size + 1) (ho : ∀ q, q < H.size → H1[q]? = H[q]?) (he : va_at D vwCl (S.1, mm_e cA (mm_push S kd) I S.1) H1) : mm_R D cA z (mm_push S kd) I H1 := by
  refine ⟨?_, by rw [hz, hR.2.1], Nat.le_succ_of_le hR.2.2.1, fun a ha => ?_, fun a ha j => ?_⟩
  · rw [← mm_w_app (S := S) (x := mm_e cA (mm_push S kd) I S.1) hR.2.2.1 rfl rfl (fun b hb => mm_e_push hb)]
    refine (hR.1.kept (fun k q hk => ho q.1 (hR.1 k q hk).lt)).app (fun k q hk => ?_)
    have hz : k < 1 := (List.getElem?_eq_some_iff.mp hk).1
    rw [show k = 0 by omega] at hk
    cases hk
    exact he
  · by_cases h : a = S.1
    · subst h
      exact ⟨hR.2.2.1, Nat.lt_succ_self _⟩
    · have h2 : (S.2.1 a).1 < 12 := by
        have : (mm_push S kd).2.1 a = S.2.1 a := by simp [mm_push, va_up, h]
        rw [this] at ha
        exact ha
      exact ⟨(hR.lt h2).1, Nat.lt_succ_of_lt (hR.lt h2).2⟩
  · exact hR.2.2.2.2 a (Nat.le_of_succ_le ha) j
theorem mm_S.push {z : Nat} {s : State} {H H1 : Heap} {locs : List Loc} (hS : va_S (fun q => z ≤ q) s.heap H locs) (hz : H1.size = H.size + 1) (ho : ∀ q, q < H.size → H1[q]? = H[q]?) : va_S (fun q => z ≤ q) s.heap H1 locs :=
  ⟨Nat.le_trans hS.1 (by omega), fun x h1 h2 => (ho x (Nat.lt_of_lt_of_le h1 hS.1)).trans (hS.2.1 x h1 h2), hS.2.2⟩
theorem mm_new {idx : Nat} (ci : Nat) (hd : decode M.2.2.1 pc = .ok (.new idx, 3)) (hc : ci < 9) (hw : Cond.classLink M.1 idx (mm_cR ci) ∈ mw_all) (hi : Cond.instantiable (mm_cR ci) (mm_cn ci) ∈ mw_all) (hini : Cond.initialized (mm_cR ci) ∈ mw_all) (hcl : cl + 1 ≤ mc) (hsl : sl + mm_cn ci ≤ ms) (kk : mm_G X M mc ms (pc + 3) lv (.ref S.1 :: st) (mm_push S (ci, 0)) I (cl + 1) (sl + mm_cn ci)) : mm_G X M mc ms pc lv st S I cl sl := by
  intro l D cA z p e R s m args below meth c Qf hX C H locs ls hR hS hL
  have hC := id C
  obtain ⟨hx, hb, hml, hown, hts, hret, hlocks, hK, hnm, ⟨hr1, hr2, hr3, hr4⟩, hz⟩ := hC
  have hKn := hK.1.1 ci _ (mm_ccl ci hc)
  refine W.newcK hx hb hown (hts _ hw) (hts _ hi) (hts _ hini) rfl hd (Nat.le_trans hcl hr3) (Nat.le_trans hsl hr4) hKn.2.1 hR.2.1 fun H1 kC hkC e1 z1 o1 => ?_
  rw [← hR.2.1] at z1 o1
  refine kk l D cA z p e R s m args below meth c Qf hX C H1 locs ls (hR.push z1 o1 ?_) (mm_S.push hS z1 o1) hL
  rw [mm_e_obj (c := ci) (by rw [mm_push_at]) hc]
  refine ⟨_, mm_ccl ci hc, (u_born (mm_cy ci) hts (mm_cw ci hc) hKn hkC e1 (mm_cty ci hc)).to (fun j hj => ?_)⟩
  rw [mm_dflt ci hc j hj]
  unfold vp_V
  rw [List.getD_eq_getElem?_getD, List.getElem?_map, List.getElem?_range hj]
  have h0 := hR.2.2.2.2 S.1 (Nat.le_refl _) j
  show _ = mm_fv (mm_push S (ci, 0)) I S.1 ci j
  unfold mm_fv
  rw [h0.1]
  show (if mm_int ci j = true then Value.int 0 else .null) = if mm_int ci j = true then .int 0 else va_rf (S.2.2 S.1 j)
  rw [h0.2]
  rfl
theorem mm_newa {n : Int32} {N : Nat} (hd : decode M.2.2.1 pc = .ok (.newarray .int, 2)) (hw : Cond.arrayClass .int ∈ mw_all) (hn : ¬ n < 0) (hN : n.toNatClampNeg = N) (hb : N * 4 ≤ 536870912) (hcl : cl + 1 ≤ mc) (hsl : sl + N ≤ ms) (kk : mm_G X M mc ms (pc + 2) lv (.ref S.1 :: st) (mm_push S (9, N)) I (cl + 1) (sl + N)) : mm_G X M mc ms pc lv (.int n :: st) S I cl sl := by
  intro l D cA z p e R s m args below meth c Qf hX C H locs ls hR hS hL
  have hC := id C
  obtain ⟨hx, hb', hml, hown, hts, hret, hlocks, hK, hnm, ⟨hr1, hr2, hr3, hr4⟩, hz⟩ := hC
  refine va_newaK (atype := .int) hx hb' (hts _ hw) rfl hd rfl hn hN hb (Nat.le_trans hcl hr3) (Nat.le_trans hsl hr4) hR.2.1 fun H1 cA' e1 z1 o1 hAr hNm => ?_
  rw [← hR.2.1] at z1 o1
  have hRA : s.vm.findClass ("[" ++ FieldType.int.toString) = some (cA 0) := (hK.1.2 0 _ rfl).2
  have hcA : cA' = cA 0 := Option.some.inj (hNm.symm.trans hRA)
  subst hcA
  refine kk l D cA z p e R s m args below meth c Qf hX C H1 locs ls (hR.push z1 o1 ?_) (mm_S.push hS z1 o1) hL
  rw [mm_e_int (n := N) mm_push_at]
  show H1[S.1]? = some (vp_cell _ _)
  rw [e1, vp_cell_i]
  have hI : I S.1 = fun _ => 0 := funext fun j => (hR.2.2.2.2 S.1 (Nat.le_refl _) j).1
  rw [hI]
  rfl
theorem mm_newq {n : Int32} {N idx : Nat} (t : Nat) (C0 : String) (hd : decode M.2.2.1 pc = .ok (.anewarray idx, 3)) (ht : (t = 0 ∧ C0 = RX4) ∨ (t = 1 ∧ C0 = RX2)) (hw : Cond.classLink M.1 idx C0 ∈ mw_all) (hn : ¬ n < 0) (hN : n.toNatClampNeg = N) (hb : N * 4 ≤ 536870912) (hcl : cl + 1 ≤ mc) (hsl : sl + N ≤ ms) (kk : mm_G X M mc ms (pc + 3) lv (.ref S.1 :: st) (mm_push S (t + 10, N)) I (cl + 1) (sl + N)) : mm_G X M mc ms pc lv (.int n :: st) S I cl sl := by
  intro l D cA z p e R s m args below meth c Qf hX C H locs ls hR hS hL
  have hC := id C
  obtain ⟨hx, hb', hml, hown, hts, hret, hlocks, hK, hnm, ⟨hr1, hr2, hr3, hr4⟩, hz⟩ := hC
  subst hN
  have hover : va_AO C0 s := by rcases ht with ⟨-, rfl⟩ | ⟨-, rfl⟩; exact hK.2.2.1; exact hK.2.2.2
  have hRA : s.vm.findClass ("[" ++ (FieldType.object C0).toString) = some (cA (t + 1)) := by
    rcases ht with ⟨rfl, rfl⟩ | ⟨rfl, rfl⟩
    · obtain ⟨kA, comp, -, -, -, h⟩ := (hK.1.2 1 _ rfl).2
      exact h
    · obtain ⟨kA, comp, -, -, -, h⟩ := (hK.1.2 2 _ rfl).2
      exact h
  refine W.anew hx hb' hown (hts _ hw) (va_AO.use hover) rfl hd rfl hn hb (Nat.le_trans hcl hr3) (Nat.le_trans hsl hr4) fun cA' kA comp f1 f2 f3 f4 => ?_
  have hcA : cA' = cA (t + 1) := Option.some.inj (f1.symm.trans hRA)
  subst hcA
  generalize hH1 : H.push ({ cls := cA (t + 1), slots := Array.replicate n.toNatClampNeg .null, vm := .none } : Cell) = H1
  have z1 : H1.size = H.size + 1 := by rw [← hH1, Array.size_push]
  have e1 : H1[H.size]? = some (arrV (cA (t + 1)) n.toNatClampNeg (fun _ => .null)) := by rw [← hH1, Array.getElem?_push_size, ← arrV_new]
  have o1 : ∀ q : Nat, q < H.size → H1[q]? = H[q]? := fun q hq => by rw [← hH1, Array.getElem?_push, if_neg (Nat.ne_of_lt hq)]
  rw [hR.2.1]
  refine kk l D cA z p e R s m args below meth c Qf hX C H1 locs ls (hR.push z1 o1 ?_) (mm_S.push hS z1 o1) hL
  rw [mm_e_ref (n := n.toNatClampNeg) (t := t) mm_push_at]
  show H1[S.1]? = some (vp_cell _ _)
  rw [← hR.2.1, e1, vp_cell_q]
  have hI : S.2.2 H.size = fun _ => none := funext fun j => (hR.2.2.2.2 H.size (by rw [hR.2.1]; exact Nat.le_refl _) j).2
  show _ = some (arrV _ _ fun j => va_rf (S.2.2 H.size j))
  rw [hI]
  rfl
theorem mm_aast {a n t v ci : Nat} {i : Int32} (hd : decode M.2.2.1 pc = .ok (.aastore, 1)) (ha : S.2.1 a = (t + 10, n)) (ht : (t = 0 ∧ ci = 4) ∨ (t = 1 ∧ ci = 2)) (hv : (S.2.1 v).1 = ci) (hi : vp_in i n) (kk : mm_G X M mc ms (pc + 1) lv st (S.1, S.2.1, mm_wp S.2.2 a i.toNatClampNeg (some v)) I cl sl) : mm_G X M mc ms pc lv (.ref v :: .int i :: .ref a :: st) S I cl sl := by
  intro l D cA z p e R s m args below meth c Qf hX C H locs ls hR hS hL
  have hC := id C
  obtain ⟨hx, hb', hml, hown, hts, hret, hlocks, hK, hnm, ⟨hr1, hr2, hr3, hr4⟩, hz⟩ := hC
  have hlt12 : (S.2.1 a).1 < 12 := by rw [ha]; rcases ht with ⟨rfl, -⟩ | ⟨rfl, -⟩ <;> exact Nat.le_of_ble_eq_true rfl
  have hc9 : ci < 9 := by omega
  have hlt := hR.lt hlt12
  have hat := hR.at hlt12
  rw [mm_e_ref ha] at hat
  have hatv := mm_fv_at hR hc9 hv
  have hi1 : i.toNatClampNeg < n := Nat.not_le.mp fun q => hi (Or.inr q)
  have hi0 : ¬ i < 0 := fun q => hi (Or.inl q)
  obtain ⟨r', hr', cellV, g1, g2, g3, -⟩ := hR.1 _ _ hatv
  have hcls := (hK.1.1 ci _ (mm_ccl ci hc9)).2
  have hRA : ∃ (kA : Class) (comp : ClassId), s.vm.classes[cA (t + 1)]? = some kA ∧ kA.kind = .array comp (.object (mm_cR ci)) ∧ s.vm.findClass (mm_cR ci) = some comp := by
    rcases ht with ⟨rfl, rfl⟩ | ⟨rfl, rfl⟩
    · obtain ⟨kA, comp, h1, h2, h3, -⟩ := (hK.1.2 1 _ rfl).2
      exact ⟨kA, comp, h1, h2, h3⟩
    · obtain ⟨kA, comp, h1, h2, h3, -⟩ := (hK.1.2 2 _ rfl).2
      exact ⟨kA, comp, h1, h2, h3⟩
  obtain ⟨kA, comp, k1, k2, k3⟩ := hRA
  have hcomp : comp = D.1 ci := Option.some.inj (k3.symm.trans hcls.1)
  subst hcomp
  obtain ⟨kC, hkC, -⟩ := hcls.2
  refine W.aast hx hb' (hR.1 _ _ hat) (fun q h => by cases h) (fun h => by cases h) k1 k2 rfl hkC ⟨hi0, by show _ < (arrV _ _ _).slots.size; rw [arrV_size]; exact hi1⟩ g1 (fun q h => by rw [g3] at h; cases h) (by rw [g2]; exact hkC) (by rw [g2]; exact va_assign hcls) rfl rfl hd fun H1 e9 z1 oq => ?_
  have hP1 := hR.1.set mm_w_D hat (e := .inl (cA (t + 1), n, .inr (.inr (.inr (.inr (va_up (S.2.2 a) i.toNatClampNeg (some v))))))) (by
    show H1[a]? = some (vp_cell _ _)
    rw [e9]
    rw [vp_cell_q, vp_cell_q, arrV_store]
    congr 2
    funext q
    by_cases hq : q = i.toNatClampNeg
    · subst hq
      simp [updV, va_up, va_rf]
    · simp [updV, va_up, hq]) oq
  rw [mm_w_set (S' := (S.1, S.2.1, mm_wp S.2.2 a i.toNatClampNeg (some v))) (I' := I) hlt.1 hlt.2 rfl (by
    have h := mm_e_ref (cA := cA) (S := (S.1, S.2.1, mm_wp S.2.2 a i.toNatClampNeg (some v))) (I := I) (t := t) (n := n) ha
    rw [h]
    have h2 : mm_wp S.2.2 a i.toNatClampNeg (some v) a = va_up (S.2.2 a) i.toNatClampNeg (some v) := by
      funext q
      by_cases hq : q = i.toNatClampNeg <;> simp [mm_wp, va_up, hq]
    show _ = _
    rw [← h2]) (fun b hb => mm_e_P hb)] at hP1
  refine kk l D cA z p e R s m args below meth c Qf hX C H1 _ ls ⟨hP1, by rw [z1, hR.2.1], hR.2.2.1, hR.2.2.2.1, fun q hq j => ⟨(hR.2.2.2.2 q hq j).1, ?_⟩⟩ (hS.put z1 oq hlt.1) hL
  show mm_wp S.2.2 a _ (some v) q j = none
  have : q ≠ a := by have h9 : S.1 ≤ q := hq; omega
  simp only [mm_wp, this, false_and, if_false]
  exact (hR.2.2.2.2 q hq j).2
theorem mm_objInit {a idx : Nat} (hd : decode M.2.2.1 pc = .ok (.invokespecial idx, 3)) (hl : Cond.methodLink M.1 idx objectInit ∈ mw_all) (hi : Cond.instanceMethod objectInit ∈ mw_all) (hc : Cond.code objectInit ⟨#[0xb1]⟩ 1 none ∈ mw_all) (hlev : 1 ≤ M.2.2.2.2.2) (hst : (st.map fun v => v.category).sum ≤ 8) (kk : mm_G X M mc ms (pc + 3) lv st S I cl sl) : mm_G X M mc ms pc lv (.ref a :: st) S I cl sl := by
  intro l D cA z p e R s m args below meth c Qf hX C H locs ls hR hS hL
  have hC := id C
  obtain ⟨hx, hb', hml, hown, hts, hret, hlocks, hK, hnm, ⟨hr1, hr2, hr3, hr4⟩, hz⟩ := hC
  refine W.objInit hx hb' hown (hts _ hl) (hts _ hi) (hts _ hc) rfl (by rw [hml]; exact hL.has.1) rfl hd (Nat.le_trans hlev hr1) ?_ ?_
  · show 2 * 0 + _ + 12 ≤ R.locals
    omega
  · exact kk l D cA z p e R s m args below meth c Qf hX C H locs ls hR hS hL
theorem mm_min {x y : Int32} {idx : Nat} (hd : decode M.2.2.1 pc = .ok (.invokestatic idx, 3)) (hl : Cond.methodLink M.1 idx Lib.Math.min.name ∈ mw_all) (h2 : Cond.static Lib.Math.min.name ∈ mw_all) (h3 : Cond.initialized "java/lang/Math" ∈ mw_all) (h4 : Cond.code Lib.Math.min.name Lib.Math.min.code 2 (some .int) ∈ mw_all) (hlev : 1 ≤ M.2.2.2.2.2) (hst : (st.map fun v => v.category).sum ≤ 8) (hcl : cl ≤ mc) (hsl : sl ≤ ms) (kk : mm_G X M mc ms (pc + 3) lv (.int (if y < x then y else x) :: st) S I cl sl) : mm_G X M mc ms pc lv (.int y :: .int x :: st) S I cl sl := by
  intro l D cA z p e R s m args below meth c Qf hX C H locs ls hR hS hL
  have hC := id C
  obtain ⟨hx, hb', hml, hown, hts, hret, hlocks, hK, hnm, ⟨hr1, hr2, hr3, hr4⟩, hz⟩ := hC
  exact va_mmin hx hb' (by rw [hml]; exact hL.has.1.symm) hown (hts _ hl) (hts _ h2) (hts _ h3) (hts _ h4) (Nat.le_trans hlev hr1) (by omega) (Nat.le_trans hcl hr3) (Nat.le_trans hsl hr4) hd (kk l D cA z p e R s m args below meth c Qf hX C H locs ls hR hS hL)
theorem mm_max {x y : Int32} {idx : Nat} (hd : decode M.2.2.1 pc = .ok (.invokestatic idx, 3)) (hl : Cond.methodLink M.1 idx Lib.Math.max.name ∈ mw_all) (h2 : Cond.static Lib.Math.max.name ∈ mw_all) (h3 : Cond.initialized "java/lang/Math" ∈ mw_all) (h4 : Cond.code Lib.Math.max.name Lib.Math.max.code 2 (some .int) ∈ mw_all) (hlev : 1 ≤ M.2.2.2.2.2) (hst : (st.map fun v => v.category).sum ≤ 8) (hcl : cl ≤ mc) (hsl : sl ≤ ms) (kk : mm_G X M mc ms (pc + 3) lv (.int (if x < y then y else x) :: st) S I cl sl) : mm_G X M mc ms pc lv (.int y :: .int x :: st) S I cl sl := by
  intro l D cA z p e R s m args below meth c Qf hX C H locs ls hR hS hL
  have hC := id C
  obtain ⟨hx, hb', hml, hown, hts, hret, hlocks, hK, hnm, ⟨hr1, hr2, hr3, hr4⟩, hz⟩ := hC
  exact va_mmax hx hb' (by rw [hml]; exact hL.has.1.symm) hown (hts _ hl) (hts _ h2) (hts _ h3) (hts _ h4) (Nat.le_trans hlev hr1) (by omega) (Nat.le_trans hcl hr3) (Nat.le_trans hsl hr4) hd (kk l D cA z p e R s m args below meth c Qf hX C H locs ls hR hS hL)
theorem mm_f2raw {b : UInt32} {idx : Nat} (hd : decode M.2.2.1 pc = .ok (.invokestatic idx, 3)) (hl : Cond.methodLink M.1 idx ⟨"java/lang/Float", "floatToRawIntBits", "(F)I"⟩ ∈ mw_all) (h1 : Cond.native ⟨"java/lang/Float", "floatToRawIntBits", "(F)I"⟩ ∈ mw_all) (h2 : Cond.static ⟨"java/lang/Float", "floatToRawIntBits", "(F)I"⟩ ∈ mw_all) (h3 : Cond.initialized "java/lang/Float" ∈ mw_all) (hlev : 1 ≤ M.2.2.2.2.2) (hst : (st.map fun v => v.category).sum ≤ 8) (kk : mm_G X M mc ms (pc + 3) lv (.int b.toInt32 :: st) S I cl sl) : mm_G X M mc ms pc lv (.float b :: st) S I cl sl := by
  intro l D cA z p e R s m args below meth c Qf hX C H locs ls hR hS hL
  have hC := id C
  obtain ⟨hx, hb', hml, hown, hts, hret, hlocks, hK, hnm, ⟨hr1, hr2, hr3, hr4⟩, hz⟩ := hC
  exact vn_f2i hx hb' (by rw [hml]; exact hL.has.1.symm) hown (hts _ hl) (hts _ h1) (hts _ h2) (hts _ h3) (Nat.le_trans hlev hr1) (by omega) hd (kk l D cA z p e R s m args below meth c Qf hX C H locs ls hR hS hL)
end mmAlloc
end
section
theorem ini_X0 : Cond.initialized RX0 ∈ mw_all := (mw_in 37 (by decide +kernel) (by decide +kernel))
theorem ini_X1 : Cond.initialized RX1 ∈ mw_all := (mw_in 36 (by decide +kernel) (by decide +kernel))
theorem ini_X2 : Cond.initialized RX2 ∈ mw_all := (mw_in 35 (by decide +kernel) (by decide +kernel))
theorem ini_X3 : Cond.initialized RX3 ∈ mw_all := (mw_in 39 (by decide +kernel) (by decide +kernel))
theorem ini_X4 : Cond.initialized RX4 ∈ mw_all := (mw_in 38 (by decide +kernel) (by decide +kernel))
theorem ini_X5 : Cond.initialized RX5 ∈ mw_all := (mw_in 40 (by decide +kernel) (by decide +kernel))
theorem ini_X6 : Cond.initialized RX6 ∈ mw_all := (mw_in 41 (by decide +kernel) (by decide +kernel))
theorem ini_X7 : Cond.initialized RX7 ∈ mw_all := (mw_in 34 (by decide +kernel) (by decide +kernel))
theorem ini_L : Cond.initialized RL ∈ mw_all := (mw_in 33 (by decide +kernel) (by decide +kernel))
theorem ini_X8 : Cond.initialized RX8 ∈ mw_all := (mw_in 42 (by decide +kernel) (by decide +kernel))
theorem ini_Jxf58ca : Cond.initialized RJxf58ca ∈ mw_all := (mw_in 44 (by decide +kernel) (by decide +kernel))
theorem ini_J9 : Cond.initialized RJ9 ∈ mw_all := (mw_in 43 (by decide +kernel) (by decide +kernel))
theorem ist_X0 : Cond.instantiable RX0 (mm_cn 0) ∈ mw_all := (mw_in 77 (by decide +kernel) (by decide +kernel))
theorem ist_X1 : Cond.instantiable RX1 (mm_cn 1) ∈ mw_all := (mw_in 62 (by decide +kernel) (by decide +kernel))
theorem ist_X2 : Cond.instantiable RX2 (mm_cn 2) ∈ mw_all := (mw_in 54 (by decide +kernel) (by decide +kernel))
theorem ist_X3 : Cond.instantiable RX3 (mm_cn 3) ∈ mw_all := (mw_in 172 (by decide +kernel) (by decide +kernel))
theorem ist_X4 : Cond.instantiable RX4 (mm_cn 4) ∈ mw_all := (mw_in 96 (by decide +kernel) (by decide +kernel))
theorem ist_X5 : Cond.instantiable RX5 (mm_cn 5) ∈ mw_all := (mw_in 192 (by decide +kernel) (by decide +kernel))
theorem ist_X6 : Cond.instantiable RX6 (mm_cn 6) ∈ mw_all := (mw_in 218 (by decide +kernel) (by decide +kernel))
theorem ist_X7 : Cond.instantiable RX7 (mm_cn 7) ∈ mw_all := (mw_in 46 (by decide +kernel) (by decide +kernel))
theorem ist_X8 : Cond.instantiable RX8 (mm_cn 8) ∈ mw_all := (mw_in 698 (by decide +kernel) (by decide +kernel))
theorem ini_Math : Cond.initialized "java/lang/Math" ∈ mw_all := ini_J9
theorem arr_I : Cond.arrayClass .int ∈ mw_all := (mw_in 75 (by decide +kernel) (by decide +kernel))
theorem im_X0_init : Cond.instanceMethod yX0_init ∈ mw_all := (mw_in 79 (by decide +kernel) (by decide +kernel))
theorem im_X0_barrelForTasting : Cond.instanceMethod yX0_barrelForTasting ∈ mw_all := (mw_in 330 (by decide +kernel) (by decide +kernel))
theorem im_X0_canBeToppedUp : Cond.instanceMethod yX0_canBeToppedUp ∈ mw_all := (mw_in 355 (by decide +kernel) (by decide +kernel))
theorem im_X0_casesBehind : Cond.instanceMethod yX0_casesBehind ∈ mw_all := (mw_in 392 (by decide +kernel) (by decide +kernel))
theorem im_X0_copyBarrels : Cond.instanceMethod yX0_copyBarrels ∈ mw_all := (mw_in 280 (by decide +kernel) (by decide +kernel))
theorem im_X0_fill : Cond.instanceMethod yX0_fill ∈ mw_all := (mw_in 307 (by decide +kernel) (by decide +kernel))
theorem im_X0_leaveOut : Cond.instanceMethod yX0_leaveOut ∈ mw_all := (mw_in 339 (by decide +kernel) (by decide +kernel))
theorem im_X0_lose : Cond.instanceMethod yX0_lose ∈ mw_all := (mw_in 372 (by decide +kernel) (by decide +kernel))
theorem im_X0_takeSip : Cond.instanceMethod yX0_takeSip ∈ mw_all := (mw_in 335 (by decide +kernel) (by decide +kernel))
theorem im_X0_topUp : Cond.instanceMethod yX0_topUp ∈ mw_all := (mw_in 359 (by decide +kernel) (by decide +kernel))
theorem im_X0_wineBehind : Cond.instanceMethod yX0_wineBehind ∈ mw_all := (mw_in 376 (by decide +kernel) (by decide +kernel))
theorem im_X1_init : Cond.instanceMethod yX1_init ∈ mw_all := (mw_in 64 (by decide +kernel) (by decide +kernel))
theorem im_X1_cell : Cond.instanceMethod yX1_cell ∈ mw_all := (mw_in 555 (by decide +kernel) (by decide +kernel))
theorem im_X1_copyBook : Cond.instanceMethod yX1_copyBook ∈ mw_all := (mw_in 289 (by decide +kernel) (by decide +kernel))
theorem im_X1_write : Cond.instanceMethod yX1_write ∈ mw_all := (mw_in 440 (by decide +kernel) (by decide +kernel))
theorem im_X2_init : Cond.instanceMethod yX2_init ∈ mw_all := (mw_in 56 (by decide +kernel) (by decide +kernel))
theorem im_X2_accountValue : Cond.instanceMethod yX2_accountValue ∈ mw_all := (mw_in 547 (by decide +kernel) (by decide +kernel))
theorem im_X2_addBuyer : Cond.instanceMethod yX2_addBuyer ∈ mw_all := (mw_in 448 (by decide +kernel) (by decide +kernel))
theorem im_X2_addLot : Cond.instanceMethod yX2_addLot ∈ mw_all := (mw_in 294 (by decide +kernel) (by decide +kernel))
theorem im_X2_barrelValue : Cond.instanceMethod yX2_barrelValue ∈ mw_all := (mw_in 518 (by decide +kernel) (by decide +kernel))
theorem im_X2_bottleLot : Cond.instanceMethod yX2_bottleLot ∈ mw_all := (mw_in 384 (by decide +kernel) (by decide +kernel))
theorem im_X2_changeSetting : Cond.instanceMethod yX2_changeSetting ∈ mw_all := (mw_in 500 (by decide +kernel) (by decide +kernel))
theorem im_X2_copyEstate : Cond.instanceMethod yX2_copyEstate ∈ mw_all := (mw_in 272 (by decide +kernel) (by decide +kernel))
theorem im_X2_cutFutures : Cond.instanceMethod yX2_cutFutures ∈ mw_all := (mw_in 404 (by decide +kernel) (by decide +kernel))
theorem im_X2_expectedCases : Cond.instanceMethod yX2_expectedCases ∈ mw_all := (mw_in 460 (by decide +kernel) (by decide +kernel))
theorem im_X2_forecastCases : Cond.instanceMethod yX2_forecastCases ∈ mw_all := (mw_in 566 (by decide +kernel) (by decide +kernel))
theorem im_X2_gainByTopping : Cond.instanceMethod yX2_gainByTopping ∈ mw_all := (mw_in 594 (by decide +kernel) (by decide +kernel))
theorem im_X2_greatestLoss : Cond.instanceMethod yX2_greatestLoss ∈ mw_all := (mw_in 602 (by decide +kernel) (by decide +kernel))
theorem im_X2_hasBuyer : Cond.instanceMethod yX2_hasBuyer ∈ mw_all := (mw_in 435 (by decide +kernel) (by decide +kernel))
theorem im_X2_holdingValue : Cond.instanceMethod yX2_holdingValue ∈ mw_all := (mw_in 526 (by decide +kernel) (by decide +kernel))
theorem im_X2_lotAt : Cond.instanceMethod yX2_lotAt ∈ mw_all := (mw_in 303 (by decide +kernel) (by decide +kernel))
theorem im_X2_lotValue : Cond.instanceMethod yX2_lotValue ∈ mw_all := (mw_in 508 (by decide +kernel) (by decide +kernel))
theorem im_X2_meanPaid : Cond.instanceMethod yX2_meanPaid ∈ mw_all := (mw_in 535 (by decide +kernel) (by decide +kernel))
theorem im_X2_monthsUntilTooFew : Cond.instanceMethod yX2_monthsUntilTooFew ∈ mw_all := (mw_in 585 (by decide +kernel) (by decide +kernel))
theorem im_X2_number : Cond.instanceMethod yX2_number ∈ mw_all := (mw_in 610 (by decide +kernel) (by decide +kernel))
theorem im_X2_passMonths : Cond.instanceMethod yX2_passMonths ∈ mw_all := (mw_in 368 (by decide +kernel) (by decide +kernel))
theorem im_X2_payEstate : Cond.instanceMethod yX2_payEstate ∈ mw_all := (mw_in 431 (by decide +kernel) (by decide +kernel))
theorem im_X2_redeemFutures : Cond.instanceMethod yX2_redeemFutures ∈ mw_all := (mw_in 479 (by decide +kernel) (by decide +kernel))
theorem im_X2_sellFutures : Cond.instanceMethod yX2_sellFutures ∈ mw_all := (mw_in 456 (by decide +kernel) (by decide +kernel))
theorem im_X2_sellableFutures : Cond.instanceMethod yX2_sellableFutures ∈ mw_all := (mw_in 574 (by decide +kernel) (by decide +kernel))
theorem im_X2_tasteLot : Cond.instanceMethod yX2_tasteLot ∈ mw_all := (mw_in 326 (by decide +kernel) (by decide +kernel))
theorem im_X2_topLot : Cond.instanceMethod yX2_topLot ∈ mw_all := (mw_in 351 (by decide +kernel) (by decide +kernel))
theorem im_X2_totalOfLots : Cond.instanceMethod yX2_totalOfLots ∈ mw_all := (mw_in 614 (by decide +kernel) (by decide +kernel))
theorem im_X2_tradeFutures : Cond.instanceMethod yX2_tradeFutures ∈ mw_all := (mw_in 471 (by decide +kernel) (by decide +kernel))
theorem im_X3_init : Cond.instanceMethod yX3_init ∈ mw_all := (mw_in 174 (by decide +kernel) (by decide +kernel))
theorem im_X3_draft : Cond.instanceMethod yX3_draft ∈ mw_all := (mw_in 264 (by decide +kernel) (by decide +kernel))
theorem im_X3_keepDraft : Cond.instanceMethod yX3_keepDraft ∈ mw_all := (mw_in 315 (by decide +kernel) (by decide +kernel))
theorem im_X3_nextRow : Cond.instanceMethod yX3_nextRow ∈ mw_all := (mw_in 268 (by decide +kernel) (by decide +kernel))
theorem im_X3_restore : Cond.instanceMethod yX3_restore ∈ mw_all := (mw_in 623 (by decide +kernel) (by decide +kernel))
theorem im_X4_init : Cond.instanceMethod yX4_init ∈ mw_all := (mw_in 98 (by decide +kernel) (by decide +kernel))
theorem im_X4_allDelivered : Cond.instanceMethod yX4_allDelivered ∈ mw_all := (mw_in 492 (by decide +kernel) (by decide +kernel))
theorem im_X4_allHeld : Cond.instanceMethod yX4_allHeld ∈ mw_all := (mw_in 397 (by decide +kernel) (by decide +kernel))
theorem im_X4_casesNow : Cond.instanceMethod yX4_casesNow ∈ mw_all := (mw_in 488 (by decide +kernel) (by decide +kernel))
theorem im_X4_copyLot : Cond.instanceMethod yX4_copyLot ∈ mw_all := (mw_in 276 (by decide +kernel) (by decide +kernel))
theorem im_X4_cutOf : Cond.instanceMethod yX4_cutOf ∈ mw_all := (mw_in 408 (by decide +kernel) (by decide +kernel))
theorem im_X4_deliver : Cond.instanceMethod yX4_deliver ∈ mw_all := (mw_in 483 (by decide +kernel) (by decide +kernel))
theorem im_X4_deliveredTo : Cond.instanceMethod yX4_deliveredTo ∈ mw_all := (mw_in 531 (by decide +kernel) (by decide +kernel))
theorem im_X4_fillBottles : Cond.instanceMethod yX4_fillBottles ∈ mw_all := (mw_in 388 (by decide +kernel) (by decide +kernel))
theorem im_X4_give : Cond.instanceMethod yX4_give ∈ mw_all := (mw_in 427 (by decide +kernel) (by decide +kernel))
theorem im_X4_heldBy : Cond.instanceMethod yX4_heldBy ∈ mw_all := (mw_in 412 (by decide +kernel) (by decide +kernel))
theorem im_X4_paidBy : Cond.instanceMethod yX4_paidBy ∈ mw_all := (mw_in 423 (by decide +kernel) (by decide +kernel))
theorem im_X4_quote : Cond.instanceMethod yX4_quote ∈ mw_all := (mw_in 343 (by decide +kernel) (by decide +kernel))
theorem im_X4_takeBack : Cond.instanceMethod yX4_takeBack ∈ mw_all := (mw_in 419 (by decide +kernel) (by decide +kernel))
theorem im_X5_init : Cond.instanceMethod yX5_init ∈ mw_all := (mw_in 194 (by decide +kernel) (by decide +kernel))
theorem im_X5_append : Cond.instanceMethod yX5_append ∈ mw_all := (mw_in 632 (by decide +kernel) (by decide +kernel))
theorem im_X5_empty : Cond.instanceMethod yX5_empty ∈ mw_all := (mw_in 643 (by decide +kernel) (by decide +kernel))
theorem im_X5_numberAt : Cond.instanceMethod yX5_numberAt ∈ mw_all := (mw_in 678 (by decide +kernel) (by decide +kernel))
theorem im_X5_numbersOf : Cond.instanceMethod yX5_numbersOf ∈ mw_all := (mw_in 666 (by decide +kernel) (by decide +kernel))
theorem im_X5_read : Cond.instanceMethod yX5_read ∈ mw_all := (mw_in 658 (by decide +kernel) (by decide +kernel))
theorem im_X5_readNumber : Cond.instanceMethod yX5_readNumber ∈ mw_all := (mw_in 670 (by decide +kernel) (by decide +kernel))
theorem im_X5_sign : Cond.instanceMethod yX5_sign ∈ mw_all := (mw_in 662 (by decide +kernel) (by decide +kernel))
theorem im_X6_init : Cond.instanceMethod yX6_init ∈ mw_all := (mw_in 220 (by decide +kernel) (by decide +kernel))
theorem im_X6_answerOf : Cond.instanceMethod yX6_answerOf ∈ mw_all := (mw_in 674 (by decide +kernel) (by decide +kernel))
theorem im_X6_blame : Cond.instanceMethod yX6_blame ∈ mw_all := (mw_in 687 (by decide +kernel) (by decide +kernel))
theorem im_X6_run : Cond.instanceMethod yX6_run ∈ mw_all := (mw_in 653 (by decide +kernel) (by decide +kernel))
theorem im_X7_init : Cond.instanceMethod yX7_init ∈ mw_all := (mw_in 48 (by decide +kernel) (by decide +kernel))
theorem im_X7_account : Cond.instanceMethod yX7_account ∈ mw_all := (mw_in 543 (by decide +kernel) (by decide +kernel))
theorem im_X7_barrel : Cond.instanceMethod yX7_barrel ∈ mw_all := (mw_in 514 (by decide +kernel) (by decide +kernel))
theorem im_X7_bottle : Cond.instanceMethod yX7_bottle ∈ mw_all := (mw_in 380 (by decide +kernel) (by decide +kernel))
theorem im_X7_buyer : Cond.instanceMethod yX7_buyer ∈ mw_all := (mw_in 444 (by decide +kernel) (by decide +kernel))
theorem im_X7_cases : Cond.instanceMethod yX7_cases ∈ mw_all := (mw_in 562 (by decide +kernel) (by decide +kernel))
theorem im_X7_clearText : Cond.instanceMethod yX7_clearText ∈ mw_all := (mw_in 639 (by decide +kernel) (by decide +kernel))
theorem im_X7_count : Cond.instanceMethod yX7_count ∈ mw_all := (mw_in 606 (by decide +kernel) (by decide +kernel))
theorem im_X7_deadline : Cond.instanceMethod yX7_deadline ∈ mw_all := (mw_in 581 (by decide +kernel) (by decide +kernel))
theorem im_X7_entry : Cond.instanceMethod yX7_entry ∈ mw_all := (mw_in 551 (by decide +kernel) (by decide +kernel))
theorem im_X7_fault : Cond.instanceMethod yX7_fault ∈ mw_all := (mw_in 647 (by decide +kernel) (by decide +kernel))
theorem im_X7_holding : Cond.instanceMethod yX7_holding ∈ mw_all := (mw_in 522 (by decide +kernel) (by decide +kernel))
theorem im_X7_loser : Cond.instanceMethod yX7_loser ∈ mw_all := (mw_in 598 (by decide +kernel) (by decide +kernel))
theorem im_X7_lot : Cond.instanceMethod yX7_lot ∈ mw_all := (mw_in 260 (by decide +kernel) (by decide +kernel))
theorem im_X7_lotOf : Cond.instanceMethod yX7_lotOf ∈ mw_all := (mw_in 504 (by decide +kernel) (by decide +kernel))
theorem im_X7_pass : Cond.instanceMethod yX7_pass ∈ mw_all := (mw_in 364 (by decide +kernel) (by decide +kernel))
theorem im_X7_play : Cond.instanceMethod yX7_play ∈ mw_all := (mw_in 692 (by decide +kernel) (by decide +kernel))
theorem im_X7_redeem : Cond.instanceMethod yX7_redeem ∈ mw_all := (mw_in 475 (by decide +kernel) (by decide +kernel))
theorem im_X7_sell : Cond.instanceMethod yX7_sell ∈ mw_all := (mw_in 452 (by decide +kernel) (by decide +kernel))
theorem im_X7_sellable : Cond.instanceMethod yX7_sellable ∈ mw_all := (mw_in 570 (by decide +kernel) (by decide +kernel))
theorem im_X7_set : Cond.instanceMethod yX7_set ∈ mw_all := (mw_in 496 (by decide +kernel) (by decide +kernel))
theorem im_X7_settled : Cond.instanceMethod yX7_settled ∈ mw_all := (mw_in 312 (by decide +kernel) (by decide +kernel))
theorem im_X7_taste : Cond.instanceMethod yX7_taste ∈ mw_all := (mw_in 322 (by decide +kernel) (by decide +kernel))
theorem im_X7_top : Cond.instanceMethod yX7_top ∈ mw_all := (mw_in 347 (by decide +kernel) (by decide +kernel))
theorem im_X7_topping : Cond.instanceMethod yX7_topping ∈ mw_all := (mw_in 590 (by decide +kernel) (by decide +kernel))
theorem im_X7_trade : Cond.instanceMethod yX7_trade ∈ mw_all := (mw_in 467 (by decide +kernel) (by decide +kernel))
theorem im_X7_type : Cond.instanceMethod yX7_type ∈ mw_all := (mw_in 628 (by decide +kernel) (by decide +kernel))
theorem im_X7_undo : Cond.instanceMethod yX7_undo ∈ mw_all := (mw_in 619 (by decide +kernel) (by decide +kernel))
theorem im_X8_init : Cond.instanceMethod yX8_init ∈ mw_all := (mw_in 700 (by decide +kernel) (by decide +kernel))
theorem im_X8_account : Cond.instanceMethod yX8_account ∈ mw_all := (mw_in 924 (by decide +kernel) (by decide +kernel))
theorem im_X8_accounts : Cond.instanceMethod yX8_accounts ∈ mw_all := (mw_in 957 (by decide +kernel) (by decide +kernel))
theorem im_X8_all : Cond.instanceMethod yX8_all ∈ mw_all := (mw_in 833 (by decide +kernel) (by decide +kernel))
theorem im_X8_allHeld : Cond.instanceMethod yX8_allHeld ∈ mw_all := (mw_in 837 (by decide +kernel) (by decide +kernel))
theorem im_X8_barrel : Cond.instanceMethod yX8_barrel ∈ mw_all := (mw_in 902 (by decide +kernel) (by decide +kernel))
theorem im_X8_bottle : Cond.instanceMethod yX8_bottle ∈ mw_all := (mw_in 828 (by decide +kernel) (by decide +kernel))
theorem im_X8_buyer : Cond.instanceMethod yX8_buyer ∈ mw_all := (mw_in 859 (by decide +kernel) (by decide +kernel))
theorem im_X8_calls : Cond.instanceMethod yX8_calls ∈ mw_all := (mw_in 1007 (by decide +kernel) (by decide +kernel))
theorem im_X8_cases : Cond.instanceMethod yX8_cases ∈ mw_all := (mw_in 932 (by decide +kernel) (by decide +kernel))
theorem im_X8_casesIn : Cond.instanceMethod yX8_casesIn ∈ mw_all := (mw_in 879 (by decide +kernel) (by decide +kernel))
theorem im_X8_changes : Cond.instanceMethod yX8_changes ∈ mw_all := (mw_in 763 (by decide +kernel) (by decide +kernel))
theorem im_X8_clearText : Cond.instanceMethod yX8_clearText ∈ mw_all := (mw_in 972 (by decide +kernel) (by decide +kernel))
theorem im_X8_comes : Cond.instanceMethod yX8_comes ∈ mw_all := (mw_in 883 (by decide +kernel) (by decide +kernel))
theorem im_X8_count : Cond.instanceMethod yX8_count ∈ mw_all := (mw_in 952 (by decide +kernel) (by decide +kernel))
theorem im_X8_deadline : Cond.instanceMethod yX8_deadline ∈ mw_all := (mw_in 940 (by decide +kernel) (by decide +kernel))
theorem im_X8_enters : Cond.instanceMethod yX8_enters ∈ mw_all := (mw_in 856 (by decide +kernel) (by decide +kernel))
theorem im_X8_entry : Cond.instanceMethod yX8_entry ∈ mw_all := (mw_in 928 (by decide +kernel) (by decide +kernel))
theorem im_X8_expected : Cond.instanceMethod yX8_expected ∈ mw_all := (mw_in 875 (by decide +kernel) (by decide +kernel))
theorem im_X8_fault : Cond.instanceMethod yX8_fault ∈ mw_all := (mw_in 976 (by decide +kernel) (by decide +kernel))
theorem im_X8_goes : Cond.instanceMethod yX8_goes ∈ mw_all := (mw_in 852 (by decide +kernel) (by decide +kernel))
theorem im_X8_holding : Cond.instanceMethod yX8_holding ∈ mw_all := (mw_in 906 (by decide +kernel) (by decide +kernel))
theorem im_X8_holds : Cond.instanceMethod yX8_holds ∈ mw_all := (mw_in 841 (by decide +kernel) (by decide +kernel))
theorem im_X8_isAt : Cond.instanceMethod yX8_isAt ∈ mw_all := (mw_in 992 (by decide +kernel) (by decide +kernel))
theorem im_X8_isBuyer : Cond.instanceMethod yX8_isBuyer ∈ mw_all := (mw_in 868 (by decide +kernel) (by decide +kernel))
theorem im_X8_isLot : Cond.instanceMethod yX8_isLot ∈ mw_all := (mw_in 771 (by decide +kernel) (by decide +kernel))
theorem im_X8_isOpen : Cond.instanceMethod yX8_isOpen ∈ mw_all := (mw_in 783 (by decide +kernel) (by decide +kernel))
theorem im_X8_lays : Cond.instanceMethod yX8_lays ∈ mw_all := (mw_in 797 (by decide +kernel) (by decide +kernel))
theorem im_X8_leaves : Cond.instanceMethod yX8_leaves ∈ mw_all := (mw_in 793 (by decide +kernel) (by decide +kernel))
theorem im_X8_loads : Cond.instanceMethod yX8_loads ∈ mw_all := (mw_in 775 (by decide +kernel) (by decide +kernel))
theorem im_X8_loser : Cond.instanceMethod yX8_loser ∈ mw_all := (mw_in 948 (by decide +kernel) (by decide +kernel))
theorem im_X8_lot : Cond.instanceMethod yX8_lot ∈ mw_all := (mw_in 753 (by decide +kernel) (by decide +kernel))
theorem im_X8_lotOf : Cond.instanceMethod yX8_lotOf ∈ mw_all := (mw_in 898 (by decide +kernel) (by decide +kernel))
theorem im_X8_mean : Cond.instanceMethod yX8_mean ∈ mw_all := (mw_in 911 (by decide +kernel) (by decide +kernel))
theorem im_X8_month : Cond.instanceMethod yX8_month ∈ mw_all := (mw_in 825 (by decide +kernel) (by decide +kernel))
theorem im_X8_needy : Cond.instanceMethod yX8_needy ∈ mw_all := (mw_in 809 (by decide +kernel) (by decide +kernel))
theorem im_X8_number : Cond.instanceMethod yX8_number ∈ mw_all := (mw_in 999 (by decide +kernel) (by decide +kernel))
theorem im_X8_of : Cond.instanceMethod yX8_of ∈ mw_all := (mw_in 779 (by decide +kernel) (by decide +kernel))
theorem im_X8_ofLots : Cond.instanceMethod yX8_ofLots ∈ mw_all := (mw_in 961 (by decide +kernel) (by decide +kernel))
theorem im_X8_pass : Cond.instanceMethod yX8_pass ∈ mw_all := (mw_in 816 (by decide +kernel) (by decide +kernel))
theorem im_X8_passes : Cond.instanceMethod yX8_passes ∈ mw_all := (mw_in 821 (by decide +kernel) (by decide +kernel))
theorem im_X8_play : Cond.instanceMethod yX8_play ∈ mw_all := (mw_in 1015 (by decide +kernel) (by decide +kernel))
theorem im_X8_plays : Cond.instanceMethod yX8_plays ∈ mw_all := (mw_in 984 (by decide +kernel) (by decide +kernel))
theorem im_X8_quote : Cond.instanceMethod yX8_quote ∈ mw_all := (mw_in 801 (by decide +kernel) (by decide +kernel))
theorem im_X8_reads : Cond.instanceMethod yX8_reads ∈ mw_all := (mw_in 988 (by decide +kernel) (by decide +kernel))
theorem im_X8_redeem : Cond.instanceMethod yX8_redeem ∈ mw_all := (mw_in 890 (by decide +kernel) (by decide +kernel))
theorem im_X8_sell : Cond.instanceMethod yX8_sell ∈ mw_all := (mw_in 863 (by decide +kernel) (by decide +kernel))
theorem im_X8_sellable : Cond.instanceMethod yX8_sellable ∈ mw_all := (mw_in 936 (by decide +kernel) (by decide +kernel))
theorem im_X8_set : Cond.instanceMethod yX8_set ∈ mw_all := (mw_in 894 (by decide +kernel) (by decide +kernel))
theorem im_X8_sign : Cond.instanceMethod yX8_sign ∈ mw_all := (mw_in 1003 (by decide +kernel) (by decide +kernel))
theorem im_X8_taste : Cond.instanceMethod yX8_taste ∈ mw_all := (mw_in 766 (by decide +kernel) (by decide +kernel))
theorem im_X8_tasted : Cond.instanceMethod yX8_tasted ∈ mw_all := (mw_in 787 (by decide +kernel) (by decide +kernel))
theorem im_X8_top : Cond.instanceMethod yX8_top ∈ mw_all := (mw_in 804 (by decide +kernel) (by decide +kernel))
theorem im_X8_topping : Cond.instanceMethod yX8_topping ∈ mw_all := (mw_in 944 (by decide +kernel) (by decide +kernel))
theorem im_X8_tops : Cond.instanceMethod yX8_tops ∈ mw_all := (mw_in 813 (by decide +kernel) (by decide +kernel))
theorem im_X8_trade : Cond.instanceMethod yX8_trade ∈ mw_all := (mw_in 886 (by decide +kernel) (by decide +kernel))
theorem im_X8_type : Cond.instanceMethod yX8_type ∈ mw_all := (mw_in 968 (by decide +kernel) (by decide +kernel))
theorem im_X8_undo : Cond.instanceMethod yX8_undo ∈ mw_all := (mw_in 964 (by decide +kernel) (by decide +kernel))
theorem im_X8_wouldCut : Cond.instanceMethod yX8_wouldCut ∈ mw_all := (mw_in 848 (by decide +kernel) (by decide +kernel))
theorem se_X0_barrelForTasting : Cond.selects RX0 yX0_barrelForTasting yX0_barrelForTasting ∈ mw_all := (mw_in 331 (by decide +kernel) (by decide +kernel))
theorem se_X0_canBeToppedUp : Cond.selects RX0 yX0_canBeToppedUp yX0_canBeToppedUp ∈ mw_all := (mw_in 356 (by decide +kernel) (by decide +kernel))
theorem se_X0_casesBehind : Cond.selects RX0 yX0_casesBehind yX0_casesBehind ∈ mw_all := (mw_in 393 (by decide +kernel) (by decide +kernel))
theorem se_X0_copyBarrels : Cond.selects RX0 yX0_copyBarrels yX0_copyBarrels ∈ mw_all := (mw_in 281 (by decide +kernel) (by decide +kernel))
theorem se_X0_fill : Cond.selects RX0 yX0_fill yX0_fill ∈ mw_all := (mw_in 308 (by decide +kernel) (by decide +kernel))
theorem se_X0_leaveOut : Cond.selects RX0 yX0_leaveOut yX0_leaveOut ∈ mw_all := (mw_in 340 (by decide +kernel) (by decide +kernel))
theorem se_X0_lose : Cond.selects RX0 yX0_lose yX0_lose ∈ mw_all := (mw_in 373 (by decide +kernel) (by decide +kernel))
theorem se_X0_takeSip : Cond.selects RX0 yX0_takeSip yX0_takeSip ∈ mw_all := (mw_in 336 (by decide +kernel) (by decide +kernel))
theorem se_X0_topUp : Cond.selects RX0 yX0_topUp yX0_topUp ∈ mw_all := (mw_in 360 (by decide +kernel) (by decide +kernel))
theorem se_X0_wineBehind : Cond.selects RX0 yX0_wineBehind yX0_wineBehind ∈ mw_all := (mw_in 377 (by decide +kernel) (by decide +kernel))
theorem se_X1_cell : Cond.selects RX1 yX1_cell yX1_cell ∈ mw_all := (mw_in 556 (by decide +kernel) (by decide +kernel))
theorem se_X1_copyBook : Cond.selects RX1 yX1_copyBook yX1_copyBook ∈ mw_all := (mw_in 290 (by decide +kernel) (by decide +kernel))
theorem se_X1_write : Cond.selects RX1 yX1_write yX1_write ∈ mw_all := (mw_in 441 (by decide +kernel) (by decide +kernel))
theorem se_X2_accountValue : Cond.selects RX2 yX2_accountValue yX2_accountValue ∈ mw_all := (mw_in 548 (by decide +kernel) (by decide +kernel))
theorem se_X2_addBuyer : Cond.selects RX2 yX2_addBuyer yX2_addBuyer ∈ mw_all := (mw_in 449 (by decide +kernel) (by decide +kernel))
theorem se_X2_addLot : Cond.selects RX2 yX2_addLot yX2_addLot ∈ mw_all := (mw_in 295 (by decide +kernel) (by decide +kernel))
theorem se_X2_barrelValue : Cond.selects RX2 yX2_barrelValue yX2_barrelValue ∈ mw_all := (mw_in 519 (by decide +kernel) (by decide +kernel))
theorem se_X2_bottleLot : Cond.selects RX2 yX2_bottleLot yX2_bottleLot ∈ mw_all := (mw_in 385 (by decide +kernel) (by decide +kernel))
theorem se_X2_changeSetting : Cond.selects RX2 yX2_changeSetting yX2_changeSetting ∈ mw_all := (mw_in 501 (by decide +kernel) (by decide +kernel))
theorem se_X2_copyEstate : Cond.selects RX2 yX2_copyEstate yX2_copyEstate ∈ mw_all := (mw_in 273 (by decide +kernel) (by decide +kernel))
theorem se_X2_cutFutures : Cond.selects RX2 yX2_cutFutures yX2_cutFutures ∈ mw_all := (mw_in 405 (by decide +kernel) (by decide +kernel))
theorem se_X2_expectedCases : Cond.selects RX2 yX2_expectedCases yX2_expectedCases ∈ mw_all := (mw_in 461 (by decide +kernel) (by decide +kernel))
theorem se_X2_forecastCases : Cond.selects RX2 yX2_forecastCases yX2_forecastCases ∈ mw_all := (mw_in 567 (by decide +kernel) (by decide +kernel))
theorem se_X2_gainByTopping : Cond.selects RX2 yX2_gainByTopping yX2_gainByTopping ∈ mw_all := (mw_in 595 (by decide +kernel) (by decide +kernel))
theorem se_X2_greatestLoss : Cond.selects RX2 yX2_greatestLoss yX2_greatestLoss ∈ mw_all := (mw_in 603 (by decide +kernel) (by decide +kernel))
theorem se_X2_hasBuyer : Cond.selects RX2 yX2_hasBuyer yX2_hasBuyer ∈ mw_all := (mw_in 436 (by decide +kernel) (by decide +kernel))
theorem se_X2_holdingValue : Cond.selects RX2 yX2_holdingValue yX2_holdingValue ∈ mw_all := (mw_in 527 (by decide +kernel) (by decide +kernel))
theorem se_X2_lotAt : Cond.selects RX2 yX2_lotAt yX2_lotAt ∈ mw_all := (mw_in 304 (by decide +kernel) (by decide +kernel))
theorem se_X2_lotValue : Cond.selects RX2 yX2_lotValue yX2_lotValue ∈ mw_all := (mw_in 509 (by decide +kernel) (by decide +kernel))
theorem se_X2_meanPaid : Cond.selects RX2 yX2_meanPaid yX2_meanPaid ∈ mw_all := (mw_in 536 (by decide +kernel) (by decide +kernel))
theorem se_X2_monthsUntilTooFew : Cond.selects RX2 yX2_monthsUntilTooFew yX2_monthsUntilTooFew ∈ mw_all := (mw_in 586 (by decide +kernel) (by decide +kernel))
theorem se_X2_number : Cond.selects RX2 yX2_number yX2_number ∈ mw_all := (mw_in 611 (by decide +kernel) (by decide +kernel))
theorem se_X2_passMonths : Cond.selects RX2 yX2_passMonths yX2_passMonths ∈ mw_all := (mw_in 369 (by decide +kernel) (by decide +kernel))
theorem se_X2_payEstate : Cond.selects RX2 yX2_payEstate yX2_payEstate ∈ mw_all := (mw_in 432 (by decide +kernel) (by decide +kernel))
theorem se_X2_redeemFutures : Cond.selects RX2 yX2_redeemFutures yX2_redeemFutures ∈ mw_all := (mw_in 480 (by decide +kernel) (by decide +kernel))
theorem se_X2_sellFutures : Cond.selects RX2 yX2_sellFutures yX2_sellFutures ∈ mw_all := (mw_in 457 (by decide +kernel) (by decide +kernel))
theorem se_X2_sellableFutures : Cond.selects RX2 yX2_sellableFutures yX2_sellableFutures ∈ mw_all := (mw_in 575 (by decide +kernel) (by decide +kernel))
theorem se_X2_tasteLot : Cond.selects RX2 yX2_tasteLot yX2_tasteLot ∈ mw_all := (mw_in 327 (by decide +kernel) (by decide +kernel))
theorem se_X2_topLot : Cond.selects RX2 yX2_topLot yX2_topLot ∈ mw_all := (mw_in 352 (by decide +kernel) (by decide +kernel))
theorem se_X2_totalOfLots : Cond.selects RX2 yX2_totalOfLots yX2_totalOfLots ∈ mw_all := (mw_in 615 (by decide +kernel) (by decide +kernel))
theorem se_X2_tradeFutures : Cond.selects RX2 yX2_tradeFutures yX2_tradeFutures ∈ mw_all := (mw_in 472 (by decide +kernel) (by decide +kernel))
theorem se_X3_draft : Cond.selects RX3 yX3_draft yX3_draft ∈ mw_all := (mw_in 265 (by decide +kernel) (by decide +kernel))
theorem se_X3_keepDraft : Cond.selects RX3 yX3_keepDraft yX3_keepDraft ∈ mw_all := (mw_in 316 (by decide +kernel) (by decide +kernel))
theorem se_X3_nextRow : Cond.selects RX3 yX3_nextRow yX3_nextRow ∈ mw_all := (mw_in 269 (by decide +kernel) (by decide +kernel))
theorem se_X3_restore : Cond.selects RX3 yX3_restore yX3_restore ∈ mw_all := (mw_in 624 (by decide +kernel) (by decide +kernel))
theorem se_X4_allDelivered : Cond.selects RX4 yX4_allDelivered yX4_allDelivered ∈ mw_all := (mw_in 493 (by decide +kernel) (by decide +kernel))
theorem se_X4_allHeld : Cond.selects RX4 yX4_allHeld yX4_allHeld ∈ mw_all := (mw_in 398 (by decide +kernel) (by decide +kernel))
theorem se_X4_casesNow : Cond.selects RX4 yX4_casesNow yX4_casesNow ∈ mw_all := (mw_in 489 (by decide +kernel) (by decide +kernel))
theorem se_X4_copyLot : Cond.selects RX4 yX4_copyLot yX4_copyLot ∈ mw_all := (mw_in 277 (by decide +kernel) (by decide +kernel))
theorem se_X4_cutOf : Cond.selects RX4 yX4_cutOf yX4_cutOf ∈ mw_all := (mw_in 409 (by decide +kernel) (by decide +kernel))
theorem se_X4_deliver : Cond.selects RX4 yX4_deliver yX4_deliver ∈ mw_all := (mw_in 484 (by decide +kernel) (by decide +kernel))
theorem se_X4_deliveredTo : Cond.selects RX4 yX4_deliveredTo yX4_deliveredTo ∈ mw_all := (mw_in 532 (by decide +kernel) (by decide +kernel))
theorem se_X4_fillBottles : Cond.selects RX4 yX4_fillBottles yX4_fillBottles ∈ mw_all := (mw_in 389 (by decide +kernel) (by decide +kernel))
theorem se_X4_give : Cond.selects RX4 yX4_give yX4_give ∈ mw_all := (mw_in 428 (by decide +kernel) (by decide +kernel))
theorem se_X4_heldBy : Cond.selects RX4 yX4_heldBy yX4_heldBy ∈ mw_all := (mw_in 413 (by decide +kernel) (by decide +kernel))
theorem se_X4_paidBy : Cond.selects RX4 yX4_paidBy yX4_paidBy ∈ mw_all := (mw_in 424 (by decide +kernel) (by decide +kernel))
theorem se_X4_quote : Cond.selects RX4 yX4_quote yX4_quote ∈ mw_all := (mw_in 344 (by decide +kernel) (by decide +kernel))
theorem se_X4_takeBack : Cond.selects RX4 yX4_takeBack yX4_takeBack ∈ mw_all := (mw_in 420 (by decide +kernel) (by decide +kernel))
theorem se_X5_append : Cond.selects RX5 yX5_append yX5_append ∈ mw_all := (mw_in 633 (by decide +kernel) (by decide +kernel))
theorem se_X5_empty : Cond.selects RX5 yX5_empty yX5_empty ∈ mw_all := (mw_in 644 (by decide +kernel) (by decide +kernel))
theorem se_X5_numberAt : Cond.selects RX5 yX5_numberAt yX5_numberAt ∈ mw_all := (mw_in 679 (by decide +kernel) (by decide +kernel))
theorem se_X5_numbersOf : Cond.selects RX5 yX5_numbersOf yX5_numbersOf ∈ mw_all := (mw_in 667 (by decide +kernel) (by decide +kernel))
theorem se_X5_read : Cond.selects RX5 yX5_read yX5_read ∈ mw_all := (mw_in 659 (by decide +kernel) (by decide +kernel))
theorem se_X5_readNumber : Cond.selects RX5 yX5_readNumber yX5_readNumber ∈ mw_all := (mw_in 671 (by decide +kernel) (by decide +kernel))
theorem se_X5_sign : Cond.selects RX5 yX5_sign yX5_sign ∈ mw_all := (mw_in 663 (by decide +kernel) (by decide +kernel))
theorem se_X6_answerOf : Cond.selects RX6 yX6_answerOf yX6_answerOf ∈ mw_all := (mw_in 675 (by decide +kernel) (by decide +kernel))
theorem se_X6_blame : Cond.selects RX6 yX6_blame yX6_blame ∈ mw_all := (mw_in 688 (by decide +kernel) (by decide +kernel))
theorem se_X6_run : Cond.selects RX6 yX6_run yX6_run ∈ mw_all := (mw_in 654 (by decide +kernel) (by decide +kernel))
theorem se_X7_account : Cond.selects RX7 yX7_account yX7_account ∈ mw_all := (mw_in 544 (by decide +kernel) (by decide +kernel))
theorem se_X7_barrel : Cond.selects RX7 yX7_barrel yX7_barrel ∈ mw_all := (mw_in 515 (by decide +kernel) (by decide +kernel))
theorem se_X7_bottle : Cond.selects RX7 yX7_bottle yX7_bottle ∈ mw_all := (mw_in 381 (by decide +kernel) (by decide +kernel))
theorem se_X7_buyer : Cond.selects RX7 yX7_buyer yX7_buyer ∈ mw_all := (mw_in 445 (by decide +kernel) (by decide +kernel))
theorem se_X7_cases : Cond.selects RX7 yX7_cases yX7_cases ∈ mw_all := (mw_in 563 (by decide +kernel) (by decide +kernel))
theorem se_X7_clearText : Cond.selects RX7 yX7_clearText yX7_clearText ∈ mw_all := (mw_in 640 (by decide +kernel) (by decide +kernel))
theorem se_X7_count : Cond.selects RX7 yX7_count yX7_count ∈ mw_all := (mw_in 607 (by decide +kernel) (by decide +kernel))
theorem se_X7_deadline : Cond.selects RX7 yX7_deadline yX7_deadline ∈ mw_all := (mw_in 582 (by decide +kernel) (by decide +kernel))
theorem se_X7_entry : Cond.selects RX7 yX7_entry yX7_entry ∈ mw_all := (mw_in 552 (by decide +kernel) (by decide +kernel))
theorem se_X7_fault : Cond.selects RX7 yX7_fault yX7_fault ∈ mw_all := (mw_in 648 (by decide +kernel) (by decide +kernel))
theorem se_X7_holding : Cond.selects RX7 yX7_holding yX7_holding ∈ mw_all := (mw_in 523 (by decide +kernel) (by decide +kernel))
theorem se_X7_loser : Cond.selects RX7 yX7_loser yX7_loser ∈ mw_all := (mw_in 599 (by decide +kernel) (by decide +kernel))
theorem se_X7_lot : Cond.selects RX7 yX7_lot yX7_lot ∈ mw_all := (mw_in 261 (by decide +kernel) (by decide +kernel))
theorem se_X7_lotOf : Cond.selects RX7 yX7_lotOf yX7_lotOf ∈ mw_all := (mw_in 505 (by decide +kernel) (by decide +kernel))
theorem se_X7_pass : Cond.selects RX7 yX7_pass yX7_pass ∈ mw_all := (mw_in 365 (by decide +kernel) (by decide +kernel))
theorem se_X7_play : Cond.selects RX7 yX7_play yX7_play ∈ mw_all := (mw_in 693 (by decide +kernel) (by decide +kernel))
theorem se_X7_redeem : Cond.selects RX7 yX7_redeem yX7_redeem ∈ mw_all := (mw_in 476 (by decide +kernel) (by decide +kernel))
theorem se_X7_sell : Cond.selects RX7 yX7_sell yX7_sell ∈ mw_all := (mw_in 453 (by decide +kernel) (by decide +kernel))
theorem se_X7_sellable : Cond.selects RX7 yX7_sellable yX7_sellable ∈ mw_all := (mw_in 571 (by decide +kernel) (by decide +kernel))
theorem se_X7_set : Cond.selects RX7 yX7_set yX7_set ∈ mw_all := (mw_in 497 (by decide +kernel) (by decide +kernel))
theorem se_X7_settled : Cond.selects RX7 yX7_settled yX7_settled ∈ mw_all := (mw_in 0 (by decide +kernel) (by decide +kernel))
theorem se_X7_taste : Cond.selects RX7 yX7_taste yX7_taste ∈ mw_all := (mw_in 323 (by decide +kernel) (by decide +kernel))
theorem se_X7_top : Cond.selects RX7 yX7_top yX7_top ∈ mw_all := (mw_in 348 (by decide +kernel) (by decide +kernel))
theorem se_X7_topping : Cond.selects RX7 yX7_topping yX7_topping ∈ mw_all := (mw_in 591 (by decide +kernel) (by decide +kernel))
theorem se_X7_trade : Cond.selects RX7 yX7_trade yX7_trade ∈ mw_all := (mw_in 468 (by decide +kernel) (by decide +kernel))
theorem se_X7_type : Cond.selects RX7 yX7_type yX7_type ∈ mw_all := (mw_in 629 (by decide +kernel) (by decide +kernel))
theorem se_X7_undo : Cond.selects RX7 yX7_undo yX7_undo ∈ mw_all := (mw_in 620 (by decide +kernel) (by decide +kernel))
theorem se_X8_account : Cond.selects RX8 yX8_account yX8_account ∈ mw_all := (mw_in 925 (by decide +kernel) (by decide +kernel))
theorem se_X8_accounts : Cond.selects RX8 yX8_accounts yX8_accounts ∈ mw_all := (mw_in 25 (by decide +kernel) (by decide +kernel))
theorem se_X8_all : Cond.selects RX8 yX8_all yX8_all ∈ mw_all := (mw_in 14 (by decide +kernel) (by decide +kernel))
theorem se_X8_allHeld : Cond.selects RX8 yX8_allHeld yX8_allHeld ∈ mw_all := (mw_in 15 (by decide +kernel) (by decide +kernel))
theorem se_X8_barrel : Cond.selects RX8 yX8_barrel yX8_barrel ∈ mw_all := (mw_in 903 (by decide +kernel) (by decide +kernel))
theorem se_X8_bottle : Cond.selects RX8 yX8_bottle yX8_bottle ∈ mw_all := (mw_in 829 (by decide +kernel) (by decide +kernel))
theorem se_X8_buyer : Cond.selects RX8 yX8_buyer yX8_buyer ∈ mw_all := (mw_in 860 (by decide +kernel) (by decide +kernel))
theorem se_X8_calls : Cond.selects RX8 yX8_calls yX8_calls ∈ mw_all := (mw_in 32 (by decide +kernel) (by decide +kernel))
theorem se_X8_cases : Cond.selects RX8 yX8_cases yX8_cases ∈ mw_all := (mw_in 933 (by decide +kernel) (by decide +kernel))
theorem se_X8_casesIn : Cond.selects RX8 yX8_casesIn yX8_casesIn ∈ mw_all := (mw_in 22 (by decide +kernel) (by decide +kernel))
theorem se_X8_changes : Cond.selects RX8 yX8_changes yX8_changes ∈ mw_all := (mw_in 1 (by decide +kernel) (by decide +kernel))
theorem se_X8_clearText : Cond.selects RX8 yX8_clearText yX8_clearText ∈ mw_all := (mw_in 973 (by decide +kernel) (by decide +kernel))
theorem se_X8_comes : Cond.selects RX8 yX8_comes yX8_comes ∈ mw_all := (mw_in 23 (by decide +kernel) (by decide +kernel))
theorem se_X8_count : Cond.selects RX8 yX8_count yX8_count ∈ mw_all := (mw_in 953 (by decide +kernel) (by decide +kernel))
theorem se_X8_deadline : Cond.selects RX8 yX8_deadline yX8_deadline ∈ mw_all := (mw_in 941 (by decide +kernel) (by decide +kernel))
theorem se_X8_enters : Cond.selects RX8 yX8_enters yX8_enters ∈ mw_all := (mw_in 19 (by decide +kernel) (by decide +kernel))
theorem se_X8_entry : Cond.selects RX8 yX8_entry yX8_entry ∈ mw_all := (mw_in 929 (by decide +kernel) (by decide +kernel))
theorem se_X8_expected : Cond.selects RX8 yX8_expected yX8_expected ∈ mw_all := (mw_in 21 (by decide +kernel) (by decide +kernel))
theorem se_X8_fault : Cond.selects RX8 yX8_fault yX8_fault ∈ mw_all := (mw_in 977 (by decide +kernel) (by decide +kernel))
theorem se_X8_goes : Cond.selects RX8 yX8_goes yX8_goes ∈ mw_all := (mw_in 18 (by decide +kernel) (by decide +kernel))
theorem se_X8_holding : Cond.selects RX8 yX8_holding yX8_holding ∈ mw_all := (mw_in 907 (by decide +kernel) (by decide +kernel))
theorem se_X8_holds : Cond.selects RX8 yX8_holds yX8_holds ∈ mw_all := (mw_in 16 (by decide +kernel) (by decide +kernel))
theorem se_X8_isAt : Cond.selects RX8 yX8_isAt yX8_isAt ∈ mw_all := (mw_in 29 (by decide +kernel) (by decide +kernel))
theorem se_X8_isBuyer : Cond.selects RX8 yX8_isBuyer yX8_isBuyer ∈ mw_all := (mw_in 20 (by decide +kernel) (by decide +kernel))
theorem se_X8_isLot : Cond.selects RX8 yX8_isLot yX8_isLot ∈ mw_all := (mw_in 2 (by decide +kernel) (by decide +kernel))
theorem se_X8_isOpen : Cond.selects RX8 yX8_isOpen yX8_isOpen ∈ mw_all := (mw_in 5 (by decide +kernel) (by decide +kernel))
theorem se_X8_lays : Cond.selects RX8 yX8_lays yX8_lays ∈ mw_all := (mw_in 8 (by decide +kernel) (by decide +kernel))
theorem se_X8_leaves : Cond.selects RX8 yX8_leaves yX8_leaves ∈ mw_all := (mw_in 7 (by decide +kernel) (by decide +kernel))
theorem se_X8_loads : Cond.selects RX8 yX8_loads yX8_loads ∈ mw_all := (mw_in 3 (by decide +kernel) (by decide +kernel))
theorem se_X8_loser : Cond.selects RX8 yX8_loser yX8_loser ∈ mw_all := (mw_in 949 (by decide +kernel) (by decide +kernel))
theorem se_X8_lot : Cond.selects RX8 yX8_lot yX8_lot ∈ mw_all := (mw_in 754 (by decide +kernel) (by decide +kernel))
theorem se_X8_lotOf : Cond.selects RX8 yX8_lotOf yX8_lotOf ∈ mw_all := (mw_in 899 (by decide +kernel) (by decide +kernel))
theorem se_X8_mean : Cond.selects RX8 yX8_mean yX8_mean ∈ mw_all := (mw_in 24 (by decide +kernel) (by decide +kernel))
theorem se_X8_month : Cond.selects RX8 yX8_month yX8_month ∈ mw_all := (mw_in 13 (by decide +kernel) (by decide +kernel))
theorem se_X8_needy : Cond.selects RX8 yX8_needy yX8_needy ∈ mw_all := (mw_in 10 (by decide +kernel) (by decide +kernel))
theorem se_X8_number : Cond.selects RX8 yX8_number yX8_number ∈ mw_all := (mw_in 30 (by decide +kernel) (by decide +kernel))
theorem se_X8_of : Cond.selects RX8 yX8_of yX8_of ∈ mw_all := (mw_in 4 (by decide +kernel) (by decide +kernel))
theorem se_X8_ofLots : Cond.selects RX8 yX8_ofLots yX8_ofLots ∈ mw_all := (mw_in 26 (by decide +kernel) (by decide +kernel))
theorem se_X8_pass : Cond.selects RX8 yX8_pass yX8_pass ∈ mw_all := (mw_in 817 (by decide +kernel) (by decide +kernel))
theorem se_X8_passes : Cond.selects RX8 yX8_passes yX8_passes ∈ mw_all := (mw_in 12 (by decide +kernel) (by decide +kernel))
theorem se_X8_play : Cond.selects RX8 yX8_play yX8_play ∈ mw_all := (mw_in 1016 (by decide +kernel) (by decide +kernel))
theorem se_X8_plays : Cond.selects RX8 yX8_plays yX8_plays ∈ mw_all := (mw_in 27 (by decide +kernel) (by decide +kernel))
theorem se_X8_quote : Cond.selects RX8 yX8_quote yX8_quote ∈ mw_all := (mw_in 9 (by decide +kernel) (by decide +kernel))
theorem se_X8_reads : Cond.selects RX8 yX8_reads yX8_reads ∈ mw_all := (mw_in 28 (by decide +kernel) (by decide +kernel))
theorem se_X8_redeem : Cond.selects RX8 yX8_redeem yX8_redeem ∈ mw_all := (mw_in 891 (by decide +kernel) (by decide +kernel))
theorem se_X8_sell : Cond.selects RX8 yX8_sell yX8_sell ∈ mw_all := (mw_in 864 (by decide +kernel) (by decide +kernel))
theorem se_X8_sellable : Cond.selects RX8 yX8_sellable yX8_sellable ∈ mw_all := (mw_in 937 (by decide +kernel) (by decide +kernel))
theorem se_X8_set : Cond.selects RX8 yX8_set yX8_set ∈ mw_all := (mw_in 895 (by decide +kernel) (by decide +kernel))
theorem se_X8_sign : Cond.selects RX8 yX8_sign yX8_sign ∈ mw_all := (mw_in 31 (by decide +kernel) (by decide +kernel))
theorem se_X8_taste : Cond.selects RX8 yX8_taste yX8_taste ∈ mw_all := (mw_in 767 (by decide +kernel) (by decide +kernel))
theorem se_X8_tasted : Cond.selects RX8 yX8_tasted yX8_tasted ∈ mw_all := (mw_in 6 (by decide +kernel) (by decide +kernel))
theorem se_X8_top : Cond.selects RX8 yX8_top yX8_top ∈ mw_all := (mw_in 805 (by decide +kernel) (by decide +kernel))
theorem se_X8_topping : Cond.selects RX8 yX8_topping yX8_topping ∈ mw_all := (mw_in 945 (by decide +kernel) (by decide +kernel))
theorem se_X8_tops : Cond.selects RX8 yX8_tops yX8_tops ∈ mw_all := (mw_in 11 (by decide +kernel) (by decide +kernel))
theorem se_X8_trade : Cond.selects RX8 yX8_trade yX8_trade ∈ mw_all := (mw_in 887 (by decide +kernel) (by decide +kernel))
theorem se_X8_type : Cond.selects RX8 yX8_type yX8_type ∈ mw_all := (mw_in 969 (by decide +kernel) (by decide +kernel))
theorem se_X8_undo : Cond.selects RX8 yX8_undo yX8_undo ∈ mw_all := (mw_in 965 (by decide +kernel) (by decide +kernel))
theorem se_X8_wouldCut : Cond.selects RX8 yX8_wouldCut yX8_wouldCut ∈ mw_all := (mw_in 17 (by decide +kernel) (by decide +kernel))
theorem sm_X7_copyRow : Cond.static yX7_copyRow ∈ mw_all := (mw_in 284 (by decide +kernel) (by decide +kernel))
theorem sm_X7_floatBits : Cond.static yX7_floatBits ∈ mw_all := (mw_in 539 (by decide +kernel) (by decide +kernel))
theorem sm_X7_share : Cond.static yX7_share ∈ mw_all := (mw_in 416 (by decide +kernel) (by decide +kernel))
theorem sm_X7_sum : Cond.static yX7_sum ∈ mw_all := (mw_in 401 (by decide +kernel) (by decide +kernel))
theorem sm_X7_within : Cond.static yX7_within ∈ mw_all := (mw_in 298 (by decide +kernel) (by decide +kernel))
theorem sm_X8_areCases : Cond.static yX8_areCases ∈ mw_all := (mw_in 871 (by decide +kernel) (by decide +kernel))
theorem sm_X8_copies : Cond.static yX8_copies ∈ mw_all := (mw_in 980 (by decide +kernel) (by decide +kernel))
theorem sm_X8_hold : Cond.static yX8_hold ∈ mw_all := (mw_in 844 (by decide +kernel) (by decide +kernel))
theorem sm_X8_in : Cond.static yX8_in ∈ mw_all := (mw_in 757 (by decide +kernel) (by decide +kernel))
theorem sm_X8_numbersOf : Cond.static yX8_numbersOf ∈ mw_all := (mw_in 995 (by decide +kernel) (by decide +kernel))
theorem sm_Jxf58ca_floatToIntBits_5c35a : Cond.static yJxf58ca_floatToIntBits_5c35a ∈ mw_all := (mw_in 914 (by decide +kernel) (by decide +kernel))
theorem sm_Jxf58ca_isNaN_12338 : Cond.static yJxf58ca_isNaN_12338 ∈ mw_all := (mw_in 917 (by decide +kernel) (by decide +kernel))
theorem sm_J9_max_7cf53 : Cond.static yJ9_max_7cf53 ∈ mw_all := (mw_in 578 (by decide +kernel) (by decide +kernel))
theorem sm_J9_min_7cf53 : Cond.static yJ9_min_7cf53 ∈ mw_all := (mw_in 319 (by decide +kernel) (by decide +kernel))
theorem okX0_init : mm_ok mX0_init 0 := ⟨by decide +kernel, rfl, (mw_in 80 (by decide +kernel) (by decide +kernel)), ⟨by decide +kernel, by decide +kernel, by decide +kernel⟩, Nat.le_of_ble_eq_true rfl, ini_X0⟩
theorem okX0_fill : mm_ok mX0_fill 2 := ⟨by decide +kernel, rfl, (mw_in 309 (by decide +kernel) (by decide +kernel)), ⟨by decide +kernel, by decide +kernel, by decide +kernel⟩, Nat.le_of_ble_eq_true rfl, ini_X0⟩
theorem okX0_copyBarrels : mm_ok mX0_copyBarrels 1 := ⟨by decide +kernel, rfl, (mw_in 282 (by decide +kernel) (by decide +kernel)), ⟨by decide +kernel, by decide +kernel, by decide +kernel⟩, Nat.le_of_ble_eq_true rfl, ini_X0⟩
theorem okX0_casesBehind : mm_ok mX0_casesBehind 1 := ⟨by decide +kernel, rfl, (mw_in 394 (by decide +kernel) (by decide +kernel)), ⟨by decide +kernel, by decide +kernel, by decide +kernel⟩, Nat.le_of_ble_eq_true rfl, ini_X0⟩
theorem okX0_lose : mm_ok mX0_lose 1 := ⟨by decide +kernel, rfl, (mw_in 374 (by decide +kernel) (by decide +kernel)), ⟨by decide +kernel, by decide +kernel, by decide +kernel⟩, Nat.le_of_ble_eq_true rfl, ini_X0⟩
theorem okX0_wineBehind : mm_ok mX0_wineBehind 2 := ⟨by decide +kernel, rfl, (mw_in 378 (by decide +kernel) (by decide +kernel)), ⟨by decide +kernel, by decide +kernel, by decide +kernel⟩, Nat.le_of_ble_eq_true rfl, ini_X0⟩
theorem okX0_barrelForTasting : mm_ok mX0_barrelForTasting 0 := ⟨by decide +kernel, rfl, (mw_in 332 (by decide +kernel) (by decide +kernel)), ⟨by decide +kernel, by decide +kernel, by decide +kernel⟩, Nat.le_of_ble_eq_true rfl, ini_X0⟩
theorem okX0_takeSip : mm_ok mX0_takeSip 1 := ⟨by decide +kernel, rfl, (mw_in 337 (by decide +kernel) (by decide +kernel)), ⟨by decide +kernel, by decide +kernel, by decide +kernel⟩, Nat.le_of_ble_eq_true rfl, ini_X0⟩
theorem okX0_leaveOut : mm_ok mX0_leaveOut 1 := ⟨by decide +kernel, rfl, (mw_in 341 (by decide +kernel) (by decide +kernel)), ⟨by decide +kernel, by decide +kernel, by decide +kernel⟩, Nat.le_of_ble_eq_true rfl, ini_X0⟩
theorem okX0_canBeToppedUp : mm_ok mX0_canBeToppedUp 0 := ⟨by decide +kernel, rfl, (mw_in 357 (by decide +kernel) (by decide +kernel)), ⟨by decide +kernel, by decide +kernel, by decide +kernel⟩, Nat.le_of_ble_eq_true rfl, ini_X0⟩
theorem okX0_topUp : mm_ok mX0_topUp 0 := ⟨by decide +kernel, rfl, (mw_in 361 (by decide +kernel) (by decide +kernel)), ⟨by decide +kernel, by decide +kernel, by decide +kernel⟩, Nat.le_of_ble_eq_true rfl, ini_X0⟩
theorem okX1_init : mm_ok mX1_init 0 := ⟨by decide +kernel, rfl, (mw_in 65 (by decide +kernel) (by decide +kernel)), ⟨by decide +kernel, by decide +kernel, by decide +kernel⟩, Nat.le_of_ble_eq_true rfl, ini_X1⟩
theorem okX1_copyBook : mm_ok mX1_copyBook 1 := ⟨by decide +kernel, rfl, (mw_in 291 (by decide +kernel) (by decide +kernel)), ⟨by decide +kernel, by decide +kernel, by decide +kernel⟩, Nat.le_of_ble_eq_true rfl, ini_X1⟩
theorem okX1_write : mm_ok mX1_write 6 := ⟨by decide +kernel, rfl, (mw_in 442 (by decide +kernel) (by decide +kernel)), ⟨by decide +kernel, by decide +kernel, by decide +kernel⟩, Nat.le_of_ble_eq_true rfl, ini_X1⟩
theorem okX1_cell : mm_ok mX1_cell 2 := ⟨by decide +kernel, rfl, (mw_in 557 (by decide +kernel) (by decide +kernel)), ⟨by decide +kernel, by decide +kernel, by decide +kernel⟩, Nat.le_of_ble_eq_true rfl, ini_X1⟩
theorem okX2_init : mm_ok mX2_init 0 := ⟨by decide +kernel, rfl, (mw_in 57 (by decide +kernel) (by decide +kernel)), ⟨by decide +kernel, by decide +kernel, by decide +kernel⟩, Nat.le_of_ble_eq_true rfl, ini_X2⟩
theorem okX2_copyEstate : mm_ok mX2_copyEstate 1 := ⟨by decide +kernel, rfl, (mw_in 274 (by decide +kernel) (by decide +kernel)), ⟨by decide +kernel, by decide +kernel, by decide +kernel⟩, Nat.le_of_ble_eq_true rfl, ini_X2⟩
theorem okX2_lotAt : mm_ok mX2_lotAt 1 := ⟨by decide +kernel, rfl, (mw_in 305 (by decide +kernel) (by decide +kernel)), ⟨by decide +kernel, by decide +kernel, by decide +kernel⟩, Nat.le_of_ble_eq_true rfl, ini_X2⟩
theorem okX2_hasBuyer : mm_ok mX2_hasBuyer 1 := ⟨by decide +kernel, rfl, (mw_in 437 (by decide +kernel) (by decide +kernel)), ⟨by decide +kernel, by decide +kernel, by decide +kernel⟩, Nat.le_of_ble_eq_true rfl, ini_X2⟩
theorem okX2_payEstate : mm_ok mX2_payEstate 2 := ⟨by decide +kernel, rfl, (mw_in 433 (by decide +kernel) (by decide +kernel)), ⟨by decide +kernel, by decide +kernel, by decide +kernel⟩, Nat.le_of_ble_eq_true rfl, ini_X2⟩
theorem okX2_addLot : mm_ok mX2_addLot 2 := ⟨by decide +kernel, rfl, (mw_in 296 (by decide +kernel) (by decide +kernel)), ⟨by decide +kernel, by decide +kernel, by decide +kernel⟩, Nat.le_of_ble_eq_true rfl, ini_X2⟩
theorem okX2_tasteLot : mm_ok mX2_tasteLot 2 := ⟨by decide +kernel, rfl, (mw_in 328 (by decide +kernel) (by decide +kernel)), ⟨by decide +kernel, by decide +kernel, by decide +kernel⟩, Nat.le_of_ble_eq_true rfl, ini_X2⟩
theorem okX2_topLot : mm_ok mX2_topLot 1 := ⟨by decide +kernel, rfl, (mw_in 353 (by decide +kernel) (by decide +kernel)), ⟨by decide +kernel, by decide +kernel, by decide +kernel⟩, Nat.le_of_ble_eq_true rfl, ini_X2⟩
theorem okX2_passMonths : mm_ok mX2_passMonths 1 := ⟨by decide +kernel, rfl, (mw_in 370 (by decide +kernel) (by decide +kernel)), ⟨by decide +kernel, by decide +kernel, by decide +kernel⟩, Nat.le_of_ble_eq_true rfl, ini_X2⟩
theorem okX2_bottleLot : mm_ok mX2_bottleLot 1 := ⟨by decide +kernel, rfl, (mw_in 386 (by decide +kernel) (by decide +kernel)), ⟨by decide +kernel, by decide +kernel, by decide +kernel⟩, Nat.le_of_ble_eq_true rfl, ini_X2⟩
theorem okX2_cutFutures : mm_ok mX2_cutFutures 4 := ⟨by decide +kernel, rfl, (mw_in 406 (by decide +kernel) (by decide +kernel)), ⟨by decide +kernel, by decide +kernel, by decide +kernel⟩, Nat.le_of_ble_eq_true rfl, ini_X2⟩
theorem okX2_addBuyer : mm_ok mX2_addBuyer 0 := ⟨by decide +kernel, rfl, (mw_in 450 (by decide +kernel) (by decide +kernel)), ⟨by decide +kernel, by decide +kernel, by decide +kernel⟩, Nat.le_of_ble_eq_true rfl, ini_X2⟩
theorem okX2_sellFutures : mm_ok mX2_sellFutures 4 := ⟨by decide +kernel, rfl, (mw_in 458 (by decide +kernel) (by decide +kernel)), ⟨by decide +kernel, by decide +kernel, by decide +kernel⟩, Nat.le_of_ble_eq_true rfl, ini_X2⟩
theorem okX2_tradeFutures : mm_ok mX2_tradeFutures 5 := ⟨by decide +kernel, rfl, (mw_in 473 (by decide +kernel) (by decide +kernel)), ⟨by decide +kernel, by decide +kernel, by decide +kernel⟩, Nat.le_of_ble_eq_true rfl, ini_X2⟩
theorem okX2_redeemFutures : mm_ok mX2_redeemFutures 3 := ⟨by decide +kernel, rfl, (mw_in 481 (by decide +kernel) (by decide +kernel)), ⟨by decide +kernel, by decide +kernel, by decide +kernel⟩, Nat.le_of_ble_eq_true rfl, ini_X2⟩
theorem okX2_changeSetting : mm_ok mX2_changeSetting 2 := ⟨by decide +kernel, rfl, (mw_in 502 (by decide +kernel) (by decide +kernel)), ⟨by decide +kernel, by decide +kernel, by decide +kernel⟩, Nat.le_of_ble_eq_true rfl, ini_X2⟩
theorem okX2_lotValue : mm_ok mX2_lotValue 2 := ⟨by decide +kernel, rfl, (mw_in 510 (by decide +kernel) (by decide +kernel)), ⟨by decide +kernel, by decide +kernel, by decide +kernel⟩, Nat.le_of_ble_eq_true rfl, ini_X2⟩
theorem okX2_barrelValue : mm_ok mX2_barrelValue 2 := ⟨by decide +kernel, rfl, (mw_in 520 (by decide +kernel) (by decide +kernel)), ⟨by decide +kernel, by decide +kernel, by decide +kernel⟩, Nat.le_of_ble_eq_true rfl, ini_X2⟩
theorem okX2_holdingValue : mm_ok mX2_holdingValue 3 := ⟨by decide +kernel, rfl, (mw_in 528 (by decide +kernel) (by decide +kernel)), ⟨by decide +kernel, by decide +kernel, by decide +kernel⟩, Nat.le_of_ble_eq_true rfl, ini_X2⟩
theorem okX2_meanPaid : mm_ok mX2_meanPaid 2 := ⟨by decide +kernel, rfl, (mw_in 537 (by decide +kernel) (by decide +kernel)), ⟨by decide +kernel, by decide +kernel, by decide +kernel⟩, Nat.le_of_ble_eq_true rfl, ini_X2⟩
theorem okX2_accountValue : mm_ok mX2_accountValue 1 := ⟨by decide +kernel, rfl, (mw_in 549 (by decide +kernel) (by decide +kernel)), ⟨by decide +kernel, by decide +kernel, by decide +kernel⟩, Nat.le_of_ble_eq_true rfl, ini_X2⟩
theorem okX2_number : mm_ok mX2_number 1 := ⟨by decide +kernel, rfl, (mw_in 612 (by decide +kernel) (by decide +kernel)), ⟨by decide +kernel, by decide +kernel, by decide +kernel⟩, Nat.le_of_ble_eq_true rfl, ini_X2⟩
theorem okX2_totalOfLots : mm_ok mX2_totalOfLots 1 := ⟨by decide +kernel, rfl, (mw_in 616 (by decide +kernel) (by decide +kernel)), ⟨by decide +kernel, by decide +kernel, by decide +kernel⟩, Nat.le_of_ble_eq_true rfl, ini_X2⟩
theorem okX2_expectedCases : mm_ok mX2_expectedCases 1 := ⟨by decide +kernel, rfl, (mw_in 462 (by decide +kernel) (by decide +kernel)), ⟨by decide +kernel, by decide +kernel, by decide +kernel⟩, Nat.le_of_ble_eq_true rfl, ini_X2⟩
theorem okX2_forecastCases : mm_ok mX2_forecastCases 2 := ⟨by decide +kernel, rfl, (mw_in 568 (by decide +kernel) (by decide +kernel)), ⟨by decide +kernel, by decide +kernel, by decide +kernel⟩, Nat.le_of_ble_eq_true rfl, ini_X2⟩
theorem okX2_sellableFutures : mm_ok mX2_sellableFutures 1 := ⟨by decide +kernel, rfl, (mw_in 576 (by decide +kernel) (by decide +kernel)), ⟨by decide +kernel, by decide +kernel, by decide +kernel⟩, Nat.le_of_ble_eq_true rfl, ini_X2⟩
theorem okX2_monthsUntilTooFew : mm_ok mX2_monthsUntilTooFew 1 := ⟨by decide +kernel, rfl, (mw_in 587 (by decide +kernel) (by decide +kernel)), ⟨by decide +kernel, by decide +kernel, by decide +kernel⟩, Nat.le_of_ble_eq_true rfl, ini_X2⟩
theorem okX2_gainByTopping : mm_ok mX2_gainByTopping 1 := ⟨by decide +kernel, rfl, (mw_in 596 (by decide +kernel) (by decide +kernel)), ⟨by decide +kernel, by decide +kernel, by decide +kernel⟩, Nat.le_of_ble_eq_true rfl, ini_X2⟩
theorem okX2_greatestLoss : mm_ok mX2_greatestLoss 2 := ⟨by decide +kernel, rfl, (mw_in 604 (by decide +kernel) (by decide +kernel)), ⟨by decide +kernel, by decide +kernel, by decide +kernel⟩, Nat.le_of_ble_eq_true rfl, ini_X2⟩
theorem okX3_init : mm_ok mX3_init 0 := ⟨by decide +kernel, rfl, (mw_in 175 (by decide +kernel) (by decide +kernel)), ⟨by decide +kernel, by decide +kernel, by decide +kernel⟩, Nat.le_of_ble_eq_true rfl, ini_X3⟩
theorem okX3_draft : mm_ok mX3_draft 1 := ⟨by decide +kernel, rfl, (mw_in 266 (by decide +kernel) (by decide +kernel)), ⟨by decide +kernel, by decide +kernel, by decide +kernel⟩, Nat.le_of_ble_eq_true rfl, ini_X3⟩
theorem okX3_keepDraft : mm_ok mX3_keepDraft 0 := ⟨by decide +kernel, rfl, (mw_in 317 (by decide +kernel) (by decide +kernel)), ⟨by decide +kernel, by decide +kernel, by decide +kernel⟩, Nat.le_of_ble_eq_true rfl, ini_X3⟩
theorem okX3_restore : mm_ok mX3_restore 1 := ⟨by decide +kernel, rfl, (mw_in 625 (by decide +kernel) (by decide +kernel)), ⟨by decide +kernel, by decide +kernel, by decide +kernel⟩, Nat.le_of_ble_eq_true rfl, ini_X3⟩
theorem okX3_nextRow : mm_ok mX3_nextRow 0 := ⟨by decide +kernel, rfl, (mw_in 270 (by decide +kernel) (by decide +kernel)), ⟨by decide +kernel, by decide +kernel, by decide +kernel⟩, Nat.le_of_ble_eq_true rfl, ini_X3⟩
theorem okX4_init : mm_ok mX4_init 0 := ⟨by decide +kernel, rfl, (mw_in 99 (by decide +kernel) (by decide +kernel)), ⟨by decide +kernel, by decide +kernel, by decide +kernel⟩, Nat.le_of_ble_eq_true rfl, ini_X4⟩
theorem okX4_copyLot : mm_ok mX4_copyLot 1 := ⟨by decide +kernel, rfl, (mw_in 278 (by decide +kernel) (by decide +kernel)), ⟨by decide +kernel, by decide +kernel, by decide +kernel⟩, Nat.le_of_ble_eq_true rfl, ini_X4⟩
theorem okX4_quote : mm_ok mX4_quote 0 := ⟨by decide +kernel, rfl, (mw_in 345 (by decide +kernel) (by decide +kernel)), ⟨by decide +kernel, by decide +kernel, by decide +kernel⟩, Nat.le_of_ble_eq_true rfl, ini_X4⟩
theorem okX4_allHeld : mm_ok mX4_allHeld 0 := ⟨by decide +kernel, rfl, (mw_in 399 (by decide +kernel) (by decide +kernel)), ⟨by decide +kernel, by decide +kernel, by decide +kernel⟩, Nat.le_of_ble_eq_true rfl, ini_X4⟩
theorem okX4_allDelivered : mm_ok mX4_allDelivered 0 := ⟨by decide +kernel, rfl, (mw_in 494 (by decide +kernel) (by decide +kernel)), ⟨by decide +kernel, by decide +kernel, by decide +kernel⟩, Nat.le_of_ble_eq_true rfl, ini_X4⟩
theorem okX4_casesNow : mm_ok mX4_casesNow 0 := ⟨by decide +kernel, rfl, (mw_in 490 (by decide +kernel) (by decide +kernel)), ⟨by decide +kernel, by decide +kernel, by decide +kernel⟩, Nat.le_of_ble_eq_true rfl, ini_X4⟩
theorem okX4_heldBy : mm_ok mX4_heldBy 1 := ⟨by decide +kernel, rfl, (mw_in 414 (by decide +kernel) (by decide +kernel)), ⟨by decide +kernel, by decide +kernel, by decide +kernel⟩, Nat.le_of_ble_eq_true rfl, ini_X4⟩
theorem okX4_paidBy : mm_ok mX4_paidBy 1 := ⟨by decide +kernel, rfl, (mw_in 425 (by decide +kernel) (by decide +kernel)), ⟨by decide +kernel, by decide +kernel, by decide +kernel⟩, Nat.le_of_ble_eq_true rfl, ini_X4⟩
theorem okX4_deliveredTo : mm_ok mX4_deliveredTo 1 := ⟨by decide +kernel, rfl, (mw_in 533 (by decide +kernel) (by decide +kernel)), ⟨by decide +kernel, by decide +kernel, by decide +kernel⟩, Nat.le_of_ble_eq_true rfl, ini_X4⟩
theorem okX4_give : mm_ok mX4_give 3 := ⟨by decide +kernel, rfl, (mw_in 429 (by decide +kernel) (by decide +kernel)), ⟨by decide +kernel, by decide +kernel, by decide +kernel⟩, Nat.le_of_ble_eq_true rfl, ini_X4⟩
theorem okX4_takeBack : mm_ok mX4_takeBack 2 := ⟨by decide +kernel, rfl, (mw_in 421 (by decide +kernel) (by decide +kernel)), ⟨by decide +kernel, by decide +kernel, by decide +kernel⟩, Nat.le_of_ble_eq_true rfl, ini_X4⟩
theorem okX4_deliver : mm_ok mX4_deliver 2 := ⟨by decide +kernel, rfl, (mw_in 485 (by decide +kernel) (by decide +kernel)), ⟨by decide +kernel, by decide +kernel, by decide +kernel⟩, Nat.le_of_ble_eq_true rfl, ini_X4⟩
theorem okX4_cutOf : mm_ok mX4_cutOf 3 := ⟨by decide +kernel, rfl, (mw_in 410 (by decide +kernel) (by decide +kernel)), ⟨by decide +kernel, by decide +kernel, by decide +kernel⟩, Nat.le_of_ble_eq_true rfl, ini_X4⟩
theorem okX4_fillBottles : mm_ok mX4_fillBottles 0 := ⟨by decide +kernel, rfl, (mw_in 390 (by decide +kernel) (by decide +kernel)), ⟨by decide +kernel, by decide +kernel, by decide +kernel⟩, Nat.le_of_ble_eq_true rfl, ini_X4⟩
theorem okX5_init : mm_ok mX5_init 0 := ⟨by decide +kernel, rfl, (mw_in 195 (by decide +kernel) (by decide +kernel)), ⟨by decide +kernel, by decide +kernel, by decide +kernel⟩, Nat.le_of_ble_eq_true rfl, ini_X5⟩
theorem okX5_append : mm_ok mX5_append 1 := ⟨by decide +kernel, rfl, (mw_in 634 (by decide +kernel) (by decide +kernel)), ⟨by decide +kernel, by decide +kernel, by decide +kernel⟩, Nat.le_of_ble_eq_true rfl, ini_X5⟩
theorem okX5_empty : mm_ok mX5_empty 0 := ⟨by decide +kernel, rfl, (mw_in 645 (by decide +kernel) (by decide +kernel)), ⟨by decide +kernel, by decide +kernel, by decide +kernel⟩, Nat.le_of_ble_eq_true rfl, ini_X5⟩
theorem okX5_sign : mm_ok mX5_sign 0 := ⟨by decide +kernel, rfl, (mw_in 664 (by decide +kernel) (by decide +kernel)), ⟨by decide +kernel, by decide +kernel, by decide +kernel⟩, Nat.le_of_ble_eq_true rfl, ini_X5⟩
theorem okX5_numberAt : mm_ok mX5_numberAt 1 := ⟨by decide +kernel, rfl, (mw_in 680 (by decide +kernel) (by decide +kernel)), ⟨by decide +kernel, by decide +kernel, by decide +kernel⟩, Nat.le_of_ble_eq_true rfl, ini_X5⟩
theorem okX5_read : mm_ok mX5_read 1 := ⟨by decide +kernel, rfl, (mw_in 660 (by decide +kernel) (by decide +kernel)), ⟨by decide +kernel, by decide +kernel, by decide +kernel⟩, Nat.le_of_ble_eq_true rfl, ini_X5⟩
theorem okX5_numbersOf : mm_ok mX5_numbersOf 1 := ⟨by decide +kernel, rfl, (mw_in 668 (by decide +kernel) (by decide +kernel)), ⟨by decide +kernel, by decide +kernel, by decide +kernel⟩, Nat.le_of_ble_eq_true rfl, ini_X5⟩
theorem okX5_readNumber : mm_ok mX5_readNumber 1 := ⟨by decide +kernel, rfl, (mw_in 672 (by decide +kernel) (by decide +kernel)), ⟨by decide +kernel, by decide +kernel, by decide +kernel⟩, Nat.le_of_ble_eq_true rfl, ini_X5⟩
theorem okX6_init : mm_ok mX6_init 0 := ⟨by decide +kernel, rfl, (mw_in 221 (by decide +kernel) (by decide +kernel)), ⟨by decide +kernel, by decide +kernel, by decide +kernel⟩, Nat.le_of_ble_eq_true rfl, ini_X6⟩
theorem okX6_run : mm_ok mX6_run 2 := ⟨by decide +kernel, rfl, (mw_in 655 (by decide +kernel) (by decide +kernel)), ⟨by decide +kernel, by decide +kernel, by decide +kernel⟩, Nat.le_of_ble_eq_true rfl, ini_X6⟩
theorem okX6_answerOf : mm_ok mX6_answerOf 1 := ⟨by decide +kernel, rfl, (mw_in 676 (by decide +kernel) (by decide +kernel)), ⟨by decide +kernel, by decide +kernel, by decide +kernel⟩, Nat.le_of_ble_eq_true rfl, ini_X6⟩
theorem okX6_blame : mm_ok mX6_blame 3 := ⟨by decide +kernel, rfl, (mw_in 689 (by decide +kernel) (by decide +kernel)), ⟨by decide +kernel, by decide +kernel, by decide +kernel⟩, Nat.le_of_ble_eq_true rfl, ini_X6⟩
theorem okX7_init : mm_ok mX7_init 0 := ⟨by decide +kernel, rfl, (mw_in 49 (by decide +kernel) (by decide +kernel)), ⟨by decide +kernel, by decide +kernel, by decide +kernel⟩, Nat.le_of_ble_eq_true rfl, ini_X7⟩
theorem okX7_lot : mm_ok mX7_lot 2 := ⟨by decide +kernel, rfl, (mw_in 262 (by decide +kernel) (by decide +kernel)), ⟨by decide +kernel, by decide +kernel, by decide +kernel⟩, Nat.le_of_ble_eq_true rfl, ini_X7⟩
theorem okX7_taste : mm_ok mX7_taste 2 := ⟨by decide +kernel, rfl, (mw_in 324 (by decide +kernel) (by decide +kernel)), ⟨by decide +kernel, by decide +kernel, by decide +kernel⟩, Nat.le_of_ble_eq_true rfl, ini_X7⟩
theorem okX7_top : mm_ok mX7_top 1 := ⟨by decide +kernel, rfl, (mw_in 349 (by decide +kernel) (by decide +kernel)), ⟨by decide +kernel, by decide +kernel, by decide +kernel⟩, Nat.le_of_ble_eq_true rfl, ini_X7⟩
theorem okX7_pass : mm_ok mX7_pass 1 := ⟨by decide +kernel, rfl, (mw_in 366 (by decide +kernel) (by decide +kernel)), ⟨by decide +kernel, by decide +kernel, by decide +kernel⟩, Nat.le_of_ble_eq_true rfl, ini_X7⟩
theorem okX7_bottle : mm_ok mX7_bottle 1 := ⟨by decide +kernel, rfl, (mw_in 382 (by decide +kernel) (by decide +kernel)), ⟨by decide +kernel, by decide +kernel, by decide +kernel⟩, Nat.le_of_ble_eq_true rfl, ini_X7⟩
theorem okX7_buyer : mm_ok mX7_buyer 0 := ⟨by decide +kernel, rfl, (mw_in 446 (by decide +kernel) (by decide +kernel)), ⟨by decide +kernel, by decide +kernel, by decide +kernel⟩, Nat.le_of_ble_eq_true rfl, ini_X7⟩
theorem okX7_sell : mm_ok mX7_sell 4 := ⟨by decide +kernel, rfl, (mw_in 454 (by decide +kernel) (by decide +kernel)), ⟨by decide +kernel, by decide +kernel, by decide +kernel⟩, Nat.le_of_ble_eq_true rfl, ini_X7⟩
theorem okX7_trade : mm_ok mX7_trade 5 := ⟨by decide +kernel, rfl, (mw_in 469 (by decide +kernel) (by decide +kernel)), ⟨by decide +kernel, by decide +kernel, by decide +kernel⟩, Nat.le_of_ble_eq_true rfl, ini_X7⟩
theorem okX7_redeem : mm_ok mX7_redeem 3 := ⟨by decide +kernel, rfl, (mw_in 477 (by decide +kernel) (by decide +kernel)), ⟨by decide +kernel, by decide +kernel, by decide +kernel⟩, Nat.le_of_ble_eq_true rfl, ini_X7⟩
theorem okX7_set : mm_ok mX7_set 2 := ⟨by decide +kernel, rfl, (mw_in 498 (by decide +kernel) (by decide +kernel)), ⟨by decide +kernel, by decide +kernel, by decide +kernel⟩, Nat.le_of_ble_eq_true rfl, ini_X7⟩
theorem okX7_lotOf : mm_ok mX7_lotOf 2 := ⟨by decide +kernel, rfl, (mw_in 506 (by decide +kernel) (by decide +kernel)), ⟨by decide +kernel, by decide +kernel, by decide +kernel⟩, Nat.le_of_ble_eq_true rfl, ini_X7⟩
theorem okX7_barrel : mm_ok mX7_barrel 2 := ⟨by decide +kernel, rfl, (mw_in 516 (by decide +kernel) (by decide +kernel)), ⟨by decide +kernel, by decide +kernel, by decide +kernel⟩, Nat.le_of_ble_eq_true rfl, ini_X7⟩
theorem okX7_holding : mm_ok mX7_holding 3 := ⟨by decide +kernel, rfl, (mw_in 524 (by decide +kernel) (by decide +kernel)), ⟨by decide +kernel, by decide +kernel, by decide +kernel⟩, Nat.le_of_ble_eq_true rfl, ini_X7⟩
theorem okX7_account : mm_ok mX7_account 1 := ⟨by decide +kernel, rfl, (mw_in 545 (by decide +kernel) (by decide +kernel)), ⟨by decide +kernel, by decide +kernel, by decide +kernel⟩, Nat.le_of_ble_eq_true rfl, ini_X7⟩
theorem okX7_entry : mm_ok mX7_entry 2 := ⟨by decide +kernel, rfl, (mw_in 553 (by decide +kernel) (by decide +kernel)), ⟨by decide +kernel, by decide +kernel, by decide +kernel⟩, Nat.le_of_ble_eq_true rfl, ini_X7⟩
theorem okX7_cases : mm_ok mX7_cases 2 := ⟨by decide +kernel, rfl, (mw_in 564 (by decide +kernel) (by decide +kernel)), ⟨by decide +kernel, by decide +kernel, by decide +kernel⟩, Nat.le_of_ble_eq_true rfl, ini_X7⟩
theorem okX7_sellable : mm_ok mX7_sellable 1 := ⟨by decide +kernel, rfl, (mw_in 572 (by decide +kernel) (by decide +kernel)), ⟨by decide +kernel, by decide +kernel, by decide +kernel⟩, Nat.le_of_ble_eq_true rfl, ini_X7⟩
theorem okX7_deadline : mm_ok mX7_deadline 1 := ⟨by decide +kernel, rfl, (mw_in 583 (by decide +kernel) (by decide +kernel)), ⟨by decide +kernel, by decide +kernel, by decide +kernel⟩, Nat.le_of_ble_eq_true rfl, ini_X7⟩
theorem okX7_topping : mm_ok mX7_topping 1 := ⟨by decide +kernel, rfl, (mw_in 592 (by decide +kernel) (by decide +kernel)), ⟨by decide +kernel, by decide +kernel, by decide +kernel⟩, Nat.le_of_ble_eq_true rfl, ini_X7⟩
theorem okX7_loser : mm_ok mX7_loser 2 := ⟨by decide +kernel, rfl, (mw_in 600 (by decide +kernel) (by decide +kernel)), ⟨by decide +kernel, by decide +kernel, by decide +kernel⟩, Nat.le_of_ble_eq_true rfl, ini_X7⟩
theorem okX7_count : mm_ok mX7_count 1 := ⟨by decide +kernel, rfl, (mw_in 608 (by decide +kernel) (by decide +kernel)), ⟨by decide +kernel, by decide +kernel, by decide +kernel⟩, Nat.le_of_ble_eq_true rfl, ini_X7⟩
theorem okX7_undo : mm_ok mX7_undo 0 := ⟨by decide +kernel, rfl, (mw_in 621 (by decide +kernel) (by decide +kernel)), ⟨by decide +kernel, by decide +kernel, by decide +kernel⟩, Nat.le_of_ble_eq_true rfl, ini_X7⟩
theorem okX7_type : mm_ok mX7_type 1 := ⟨by decide +kernel, rfl, (mw_in 630 (by decide +kernel) (by decide +kernel)), ⟨by decide +kernel, by decide +kernel, by decide +kernel⟩, Nat.le_of_ble_eq_true rfl, ini_X7⟩
theorem okX7_clearText : mm_ok mX7_clearText 0 := ⟨by decide +kernel, rfl, (mw_in 641 (by decide +kernel) (by decide +kernel)), ⟨by decide +kernel, by decide +kernel, by decide +kernel⟩, Nat.le_of_ble_eq_true rfl, ini_X7⟩
theorem okX7_fault : mm_ok mX7_fault 1 := ⟨by decide +kernel, rfl, (mw_in 649 (by decide +kernel) (by decide +kernel)), ⟨by decide +kernel, by decide +kernel, by decide +kernel⟩, Nat.le_of_ble_eq_true rfl, ini_X7⟩
theorem okX7_play : mm_ok mX7_play 0 := ⟨by decide +kernel, rfl, (mw_in 694 (by decide +kernel) (by decide +kernel)), ⟨by decide +kernel, by decide +kernel, by decide +kernel⟩, Nat.le_of_ble_eq_true rfl, ini_X7⟩
theorem okX7_settled : mm_ok mX7_settled 1 := ⟨by decide +kernel, rfl, (mw_in 313 (by decide +kernel) (by decide +kernel)), ⟨by decide +kernel, by decide +kernel, by decide +kernel⟩, Nat.le_of_ble_eq_true rfl, ini_X7⟩
theorem okX7_within : mm_ok mX7_within 3 := ⟨by decide +kernel, rfl, (mw_in 299 (by decide +kernel) (by decide +kernel)), ⟨by decide +kernel, by decide +kernel, by decide +kernel⟩, Nat.le_of_ble_eq_true rfl, ini_X7⟩
theorem okX7_share : mm_ok mX7_share 3 := ⟨by decide +kernel, rfl, (mw_in 417 (by decide +kernel) (by decide +kernel)), ⟨by decide +kernel, by decide +kernel, by decide +kernel⟩, Nat.le_of_ble_eq_true rfl, ini_X7⟩
theorem okX7_sum : mm_ok mX7_sum 1 := ⟨by decide +kernel, rfl, (mw_in 402 (by decide +kernel) (by decide +kernel)), ⟨by decide +kernel, by decide +kernel, by decide +kernel⟩, Nat.le_of_ble_eq_true rfl, ini_X7⟩
theorem okX7_copyRow : mm_ok mX7_copyRow 2 := ⟨by decide +kernel, rfl, (mw_in 285 (by decide +kernel) (by decide +kernel)), ⟨by decide +kernel, by decide +kernel, by decide +kernel⟩, Nat.le_of_ble_eq_true rfl, ini_X7⟩
theorem okX7_floatBits : mm_ok mX7_floatBits 1 := ⟨by decide +kernel, rfl, (mw_in 540 (by decide +kernel) (by decide +kernel)), ⟨by decide +kernel, by decide +kernel, by decide +kernel⟩, Nat.le_of_ble_eq_true rfl, ini_X7⟩
theorem okX8_init : mm_ok mX8_init 0 := ⟨by decide +kernel, rfl, (mw_in 701 (by decide +kernel) (by decide +kernel)), ⟨by decide +kernel, by decide +kernel, by decide +kernel⟩, Nat.le_of_ble_eq_true rfl, ini_X8⟩
theorem okX8_in : mm_ok mX8_in 3 := ⟨by decide +kernel, rfl, (mw_in 758 (by decide +kernel) (by decide +kernel)), ⟨by decide +kernel, by decide +kernel, by decide +kernel⟩, Nat.le_of_ble_eq_true rfl, ini_X8⟩
theorem okX8_copies : mm_ok mX8_copies 2 := ⟨by decide +kernel, rfl, (mw_in 981 (by decide +kernel) (by decide +kernel)), ⟨by decide +kernel, by decide +kernel, by decide +kernel⟩, Nat.le_of_ble_eq_true rfl, ini_X8⟩
theorem okX8_changes : mm_ok mX8_changes 0 := ⟨by decide +kernel, rfl, (mw_in 764 (by decide +kernel) (by decide +kernel)), ⟨by decide +kernel, by decide +kernel, by decide +kernel⟩, Nat.le_of_ble_eq_true rfl, ini_X8⟩
theorem okX8_isLot : mm_ok mX8_isLot 1 := ⟨by decide +kernel, rfl, (mw_in 772 (by decide +kernel) (by decide +kernel)), ⟨by decide +kernel, by decide +kernel, by decide +kernel⟩, Nat.le_of_ble_eq_true rfl, ini_X8⟩
theorem okX8_isBuyer : mm_ok mX8_isBuyer 1 := ⟨by decide +kernel, rfl, (mw_in 869 (by decide +kernel) (by decide +kernel)), ⟨by decide +kernel, by decide +kernel, by decide +kernel⟩, Nat.le_of_ble_eq_true rfl, ini_X8⟩
theorem okX8_of : mm_ok mX8_of 2 := ⟨by decide +kernel, rfl, (mw_in 780 (by decide +kernel) (by decide +kernel)), ⟨by decide +kernel, by decide +kernel, by decide +kernel⟩, Nat.le_of_ble_eq_true rfl, ini_X8⟩
theorem okX8_isOpen : mm_ok mX8_isOpen 1 := ⟨by decide +kernel, rfl, (mw_in 784 (by decide +kernel) (by decide +kernel)), ⟨by decide +kernel, by decide +kernel, by decide +kernel⟩, Nat.le_of_ble_eq_true rfl, ini_X8⟩
theorem okX8_hold : mm_ok mX8_hold 3 := ⟨by decide +kernel, rfl, (mw_in 845 (by decide +kernel) (by decide +kernel)), ⟨by decide +kernel, by decide +kernel, by decide +kernel⟩, Nat.le_of_ble_eq_true rfl, ini_X8⟩
theorem okX8_holds : mm_ok mX8_holds 2 := ⟨by decide +kernel, rfl, (mw_in 842 (by decide +kernel) (by decide +kernel)), ⟨by decide +kernel, by decide +kernel, by decide +kernel⟩, Nat.le_of_ble_eq_true rfl, ini_X8⟩
theorem okX8_allHeld : mm_ok mX8_allHeld 1 := ⟨by decide +kernel, rfl, (mw_in 838 (by decide +kernel) (by decide +kernel)), ⟨by decide +kernel, by decide +kernel, by decide +kernel⟩, Nat.le_of_ble_eq_true rfl, ini_X8⟩
theorem okX8_loads : mm_ok mX8_loads 1 := ⟨by decide +kernel, rfl, (mw_in 776 (by decide +kernel) (by decide +kernel)), ⟨by decide +kernel, by decide +kernel, by decide +kernel⟩, Nat.le_of_ble_eq_true rfl, ini_X8⟩
theorem okX8_lays : mm_ok mX8_lays 1 := ⟨by decide +kernel, rfl, (mw_in 798 (by decide +kernel) (by decide +kernel)), ⟨by decide +kernel, by decide +kernel, by decide +kernel⟩, Nat.le_of_ble_eq_true rfl, ini_X8⟩
theorem okX8_all : mm_ok mX8_all 0 := ⟨by decide +kernel, rfl, (mw_in 834 (by decide +kernel) (by decide +kernel)), ⟨by decide +kernel, by decide +kernel, by decide +kernel⟩, Nat.le_of_ble_eq_true rfl, ini_X8⟩
theorem okX8_leaves : mm_ok mX8_leaves 0 := ⟨by decide +kernel, rfl, (mw_in 794 (by decide +kernel) (by decide +kernel)), ⟨by decide +kernel, by decide +kernel, by decide +kernel⟩, Nat.le_of_ble_eq_true rfl, ini_X8⟩
theorem okX8_month : mm_ok mX8_month 1 := ⟨by decide +kernel, rfl, (mw_in 826 (by decide +kernel) (by decide +kernel)), ⟨by decide +kernel, by decide +kernel, by decide +kernel⟩, Nat.le_of_ble_eq_true rfl, ini_X8⟩
theorem okX8_casesIn : mm_ok mX8_casesIn 2 := ⟨by decide +kernel, rfl, (mw_in 880 (by decide +kernel) (by decide +kernel)), ⟨by decide +kernel, by decide +kernel, by decide +kernel⟩, Nat.le_of_ble_eq_true rfl, ini_X8⟩
theorem okX8_expected : mm_ok mX8_expected 1 := ⟨by decide +kernel, rfl, (mw_in 876 (by decide +kernel) (by decide +kernel)), ⟨by decide +kernel, by decide +kernel, by decide +kernel⟩, Nat.le_of_ble_eq_true rfl, ini_X8⟩
theorem okX8_needy : mm_ok mX8_needy 0 := ⟨by decide +kernel, rfl, (mw_in 810 (by decide +kernel) (by decide +kernel)), ⟨by decide +kernel, by decide +kernel, by decide +kernel⟩, Nat.le_of_ble_eq_true rfl, ini_X8⟩
theorem okX8_tops : mm_ok mX8_tops 0 := ⟨by decide +kernel, rfl, (mw_in 814 (by decide +kernel) (by decide +kernel)), ⟨by decide +kernel, by decide +kernel, by decide +kernel⟩, Nat.le_of_ble_eq_true rfl, ini_X8⟩
theorem okX8_lot : mm_ok mX8_lot 2 := ⟨by decide +kernel, rfl, (mw_in 755 (by decide +kernel) (by decide +kernel)), ⟨by decide +kernel, by decide +kernel, by decide +kernel⟩, Nat.le_of_ble_eq_true rfl, ini_X8⟩
theorem okX8_quote : mm_ok mX8_quote 1 := ⟨by decide +kernel, rfl, (mw_in 802 (by decide +kernel) (by decide +kernel)), ⟨by decide +kernel, by decide +kernel, by decide +kernel⟩, Nat.le_of_ble_eq_true rfl, ini_X8⟩
theorem okX8_tasted : mm_ok mX8_tasted 0 := ⟨by decide +kernel, rfl, (mw_in 788 (by decide +kernel) (by decide +kernel)), ⟨by decide +kernel, by decide +kernel, by decide +kernel⟩, Nat.le_of_ble_eq_true rfl, ini_X8⟩
theorem okX8_taste : mm_ok mX8_taste 2 := ⟨by decide +kernel, rfl, (mw_in 768 (by decide +kernel) (by decide +kernel)), ⟨by decide +kernel, by decide +kernel, by decide +kernel⟩, Nat.le_of_ble_eq_true rfl, ini_X8⟩
theorem okX8_top : mm_ok mX8_top 1 := ⟨by decide +kernel, rfl, (mw_in 806 (by decide +kernel) (by decide +kernel)), ⟨by decide +kernel, by decide +kernel, by decide +kernel⟩, Nat.le_of_ble_eq_true rfl, ini_X8⟩
theorem okX8_passes : mm_ok mX8_passes 0 := ⟨by decide +kernel, rfl, (mw_in 822 (by decide +kernel) (by decide +kernel)), ⟨by decide +kernel, by decide +kernel, by decide +kernel⟩, Nat.le_of_ble_eq_true rfl, ini_X8⟩
theorem okX8_pass : mm_ok mX8_pass 1 := ⟨by decide +kernel, rfl, (mw_in 818 (by decide +kernel) (by decide +kernel)), ⟨by decide +kernel, by decide +kernel, by decide +kernel⟩, Nat.le_of_ble_eq_true rfl, ini_X8⟩
theorem okX8_enters : mm_ok mX8_enters 6 := ⟨by decide +kernel, rfl, (mw_in 857 (by decide +kernel) (by decide +kernel)), ⟨by decide +kernel, by decide +kernel, by decide +kernel⟩, Nat.le_of_ble_eq_true rfl, ini_X8⟩
theorem okX8_goes : mm_ok mX8_goes 3 := ⟨by decide +kernel, rfl, (mw_in 853 (by decide +kernel) (by decide +kernel)), ⟨by decide +kernel, by decide +kernel, by decide +kernel⟩, Nat.le_of_ble_eq_true rfl, ini_X8⟩
theorem okX8_wouldCut : mm_ok mX8_wouldCut 4 := ⟨by decide +kernel, rfl, (mw_in 849 (by decide +kernel) (by decide +kernel)), ⟨by decide +kernel, by decide +kernel, by decide +kernel⟩, Nat.le_of_ble_eq_true rfl, ini_X8⟩
theorem okX8_bottle : mm_ok mX8_bottle 1 := ⟨by decide +kernel, rfl, (mw_in 830 (by decide +kernel) (by decide +kernel)), ⟨by decide +kernel, by decide +kernel, by decide +kernel⟩, Nat.le_of_ble_eq_true rfl, ini_X8⟩
theorem okX8_buyer : mm_ok mX8_buyer 0 := ⟨by decide +kernel, rfl, (mw_in 861 (by decide +kernel) (by decide +kernel)), ⟨by decide +kernel, by decide +kernel, by decide +kernel⟩, Nat.le_of_ble_eq_true rfl, ini_X8⟩
theorem okX8_areCases : mm_ok mX8_areCases 2 := ⟨by decide +kernel, rfl, (mw_in 872 (by decide +kernel) (by decide +kernel)), ⟨by decide +kernel, by decide +kernel, by decide +kernel⟩, Nat.le_of_ble_eq_true rfl, ini_X8⟩
theorem okX8_comes : mm_ok mX8_comes 5 := ⟨by decide +kernel, rfl, (mw_in 884 (by decide +kernel) (by decide +kernel)), ⟨by decide +kernel, by decide +kernel, by decide +kernel⟩, Nat.le_of_ble_eq_true rfl, ini_X8⟩
theorem okX8_sell : mm_ok mX8_sell 4 := ⟨by decide +kernel, rfl, (mw_in 865 (by decide +kernel) (by decide +kernel)), ⟨by decide +kernel, by decide +kernel, by decide +kernel⟩, Nat.le_of_ble_eq_true rfl, ini_X8⟩
theorem okX8_trade : mm_ok mX8_trade 5 := ⟨by decide +kernel, rfl, (mw_in 888 (by decide +kernel) (by decide +kernel)), ⟨by decide +kernel, by decide +kernel, by decide +kernel⟩, Nat.le_of_ble_eq_true rfl, ini_X8⟩
theorem okX8_redeem : mm_ok mX8_redeem 3 := ⟨by decide +kernel, rfl, (mw_in 892 (by decide +kernel) (by decide +kernel)), ⟨by decide +kernel, by decide +kernel, by decide +kernel⟩, Nat.le_of_ble_eq_true rfl, ini_X8⟩
theorem okX8_set : mm_ok mX8_set 2 := ⟨by decide +kernel, rfl, (mw_in 896 (by decide +kernel) (by decide +kernel)), ⟨by decide +kernel, by decide +kernel, by decide +kernel⟩, Nat.le_of_ble_eq_true rfl, ini_X8⟩
theorem okX8_lotOf : mm_ok mX8_lotOf 2 := ⟨by decide +kernel, rfl, (mw_in 900 (by decide +kernel) (by decide +kernel)), ⟨by decide +kernel, by decide +kernel, by decide +kernel⟩, Nat.le_of_ble_eq_true rfl, ini_X8⟩
theorem okX8_barrel : mm_ok mX8_barrel 2 := ⟨by decide +kernel, rfl, (mw_in 904 (by decide +kernel) (by decide +kernel)), ⟨by decide +kernel, by decide +kernel, by decide +kernel⟩, Nat.le_of_ble_eq_true rfl, ini_X8⟩
theorem okX8_mean : mm_ok mX8_mean 2 := ⟨by decide +kernel, rfl, (mw_in 912 (by decide +kernel) (by decide +kernel)), ⟨by decide +kernel, by decide +kernel, by decide +kernel⟩, Nat.le_of_ble_eq_true rfl, ini_X8⟩
theorem okX8_holding : mm_ok mX8_holding 3 := ⟨by decide +kernel, rfl, (mw_in 908 (by decide +kernel) (by decide +kernel)), ⟨by decide +kernel, by decide +kernel, by decide +kernel⟩, Nat.le_of_ble_eq_true rfl, ini_X8⟩
theorem okX8_account : mm_ok mX8_account 1 := ⟨by decide +kernel, rfl, (mw_in 926 (by decide +kernel) (by decide +kernel)), ⟨by decide +kernel, by decide +kernel, by decide +kernel⟩, Nat.le_of_ble_eq_true rfl, ini_X8⟩
theorem okX8_entry : mm_ok mX8_entry 2 := ⟨by decide +kernel, rfl, (mw_in 930 (by decide +kernel) (by decide +kernel)), ⟨by decide +kernel, by decide +kernel, by decide +kernel⟩, Nat.le_of_ble_eq_true rfl, ini_X8⟩
theorem okX8_cases : mm_ok mX8_cases 2 := ⟨by decide +kernel, rfl, (mw_in 934 (by decide +kernel) (by decide +kernel)), ⟨by decide +kernel, by decide +kernel, by decide +kernel⟩, Nat.le_of_ble_eq_true rfl, ini_X8⟩
theorem okX8_sellable : mm_ok mX8_sellable 1 := ⟨by decide +kernel, rfl, (mw_in 938 (by decide +kernel) (by decide +kernel)), ⟨by decide +kernel, by decide +kernel, by decide +kernel⟩, Nat.le_of_ble_eq_true rfl, ini_X8⟩
theorem okX8_deadline : mm_ok mX8_deadline 1 := ⟨by decide +kernel, rfl, (mw_in 942 (by decide +kernel) (by decide +kernel)), ⟨by decide +kernel, by decide +kernel, by decide +kernel⟩, Nat.le_of_ble_eq_true rfl, ini_X8⟩
theorem okX8_topping : mm_ok mX8_topping 1 := ⟨by decide +kernel, rfl, (mw_in 946 (by decide +kernel) (by decide +kernel)), ⟨by decide +kernel, by decide +kernel, by decide +kernel⟩, Nat.le_of_ble_eq_true rfl, ini_X8⟩
theorem okX8_loser : mm_ok mX8_loser 2 := ⟨by decide +kernel, rfl, (mw_in 950 (by decide +kernel) (by decide +kernel)), ⟨by decide +kernel, by decide +kernel, by decide +kernel⟩, Nat.le_of_ble_eq_true rfl, ini_X8⟩
theorem okX8_accounts : mm_ok mX8_accounts 0 := ⟨by decide +kernel, rfl, (mw_in 958 (by decide +kernel) (by decide +kernel)), ⟨by decide +kernel, by decide +kernel, by decide +kernel⟩, Nat.le_of_ble_eq_true rfl, ini_X8⟩
theorem okX8_ofLots : mm_ok mX8_ofLots 1 := ⟨by decide +kernel, rfl, (mw_in 962 (by decide +kernel) (by decide +kernel)), ⟨by decide +kernel, by decide +kernel, by decide +kernel⟩, Nat.le_of_ble_eq_true rfl, ini_X8⟩
theorem okX8_count : mm_ok mX8_count 1 := ⟨by decide +kernel, rfl, (mw_in 954 (by decide +kernel) (by decide +kernel)), ⟨by decide +kernel, by decide +kernel, by decide +kernel⟩, Nat.le_of_ble_eq_true rfl, ini_X8⟩
theorem okX8_undo : mm_ok mX8_undo 0 := ⟨by decide +kernel, rfl, (mw_in 966 (by decide +kernel) (by decide +kernel)), ⟨by decide +kernel, by decide +kernel, by decide +kernel⟩, Nat.le_of_ble_eq_true rfl, ini_X8⟩
theorem okX8_type : mm_ok mX8_type 1 := ⟨by decide +kernel, rfl, (mw_in 970 (by decide +kernel) (by decide +kernel)), ⟨by decide +kernel, by decide +kernel, by decide +kernel⟩, Nat.le_of_ble_eq_true rfl, ini_X8⟩
theorem okX8_clearText : mm_ok mX8_clearText 0 := ⟨by decide +kernel, rfl, (mw_in 974 (by decide +kernel) (by decide +kernel)), ⟨by decide +kernel, by decide +kernel, by decide +kernel⟩, Nat.le_of_ble_eq_true rfl, ini_X8⟩
theorem okX8_isAt : mm_ok mX8_isAt 2 := ⟨by decide +kernel, rfl, (mw_in 993 (by decide +kernel) (by decide +kernel)), ⟨by decide +kernel, by decide +kernel, by decide +kernel⟩, Nat.le_of_ble_eq_true rfl, ini_X8⟩
theorem okX8_sign : mm_ok mX8_sign 1 := ⟨by decide +kernel, rfl, (mw_in 1004 (by decide +kernel) (by decide +kernel)), ⟨by decide +kernel, by decide +kernel, by decide +kernel⟩, Nat.le_of_ble_eq_true rfl, ini_X8⟩
theorem okX8_number : mm_ok mX8_number 1 := ⟨by decide +kernel, rfl, (mw_in 1000 (by decide +kernel) (by decide +kernel)), ⟨by decide +kernel, by decide +kernel, by decide +kernel⟩, Nat.le_of_ble_eq_true rfl, ini_X8⟩
theorem okX8_numbersOf : mm_ok mX8_numbersOf 1 := ⟨by decide +kernel, rfl, (mw_in 996 (by decide +kernel) (by decide +kernel)), ⟨by decide +kernel, by decide +kernel, by decide +kernel⟩, Nat.le_of_ble_eq_true rfl, ini_X8⟩
theorem okX8_reads : mm_ok mX8_reads 0 := ⟨by decide +kernel, rfl, (mw_in 989 (by decide +kernel) (by decide +kernel)), ⟨by decide +kernel, by decide +kernel, by decide +kernel⟩, Nat.le_of_ble_eq_true rfl, ini_X8⟩
theorem okX8_calls : mm_ok mX8_calls 0 := ⟨by decide +kernel, rfl, (mw_in 1008 (by decide +kernel) (by decide +kernel)), ⟨by decide +kernel, by decide +kernel, by decide +kernel⟩, Nat.le_of_ble_eq_true rfl, ini_X8⟩
theorem okX8_plays : mm_ok mX8_plays 0 := ⟨by decide +kernel, rfl, (mw_in 985 (by decide +kernel) (by decide +kernel)), ⟨by decide +kernel, by decide +kernel, by decide +kernel⟩, Nat.le_of_ble_eq_true rfl, ini_X8⟩
theorem okX8_fault : mm_ok mX8_fault 1 := ⟨by decide +kernel, rfl, (mw_in 978 (by decide +kernel) (by decide +kernel)), ⟨by decide +kernel, by decide +kernel, by decide +kernel⟩, Nat.le_of_ble_eq_true rfl, ini_X8⟩
theorem okX8_play : mm_ok mX8_play 0 := ⟨by decide +kernel, rfl, (mw_in 1017 (by decide +kernel) (by decide +kernel)), ⟨by decide +kernel, by decide +kernel, by decide +kernel⟩, Nat.le_of_ble_eq_true rfl, ini_X8⟩
theorem okJxf58ca_isNaN_12338 : mm_ok mJxf58ca_isNaN_12338 1 := ⟨by decide +kernel, rfl, (mw_in 918 (by decide +kernel) (by decide +kernel)), ⟨by decide +kernel, by decide +kernel, by decide +kernel⟩, Nat.le_of_ble_eq_true rfl, ini_Jxf58ca⟩
theorem okJxf58ca_floatToIntBits_5c35a : mm_ok mJxf58ca_floatToIntBits_5c35a 1 := ⟨by decide +kernel, rfl, (mw_in 915 (by decide +kernel) (by decide +kernel)), ⟨by decide +kernel, by decide +kernel, by decide +kernel⟩, Nat.le_of_ble_eq_true rfl, ini_Jxf58ca⟩
theorem fl_X1_9 : mm_F RX1 9 1 0 := ⟨by decide, by decide, (mw_in 67 (by decide +kernel) (by decide +kernel))⟩
theorem fl_X1_19 : mm_F RX1 19 1 1 := ⟨by decide, by decide, (mw_in 68 (by decide +kernel) (by decide +kernel))⟩
theorem fl_X2_205 : mm_F RX2 205 1 1 := ⟨by decide, by decide, (mw_in 69 (by decide +kernel) (by decide +kernel))⟩
theorem fl_X0_9 : mm_F RX0 9 0 0 := ⟨by decide, by decide, (mw_in 82 (by decide +kernel) (by decide +kernel))⟩
theorem fl_X2_179 : mm_F RX2 179 0 0 := ⟨by decide, by decide, (mw_in 83 (by decide +kernel) (by decide +kernel))⟩
theorem fl_X0_15 : mm_F RX0 15 0 1 := ⟨by decide, by decide, (mw_in 84 (by decide +kernel) (by decide +kernel))⟩
theorem fl_X2_119 : mm_F RX2 119 0 1 := ⟨by decide, by decide, (mw_in 85 (by decide +kernel) (by decide +kernel))⟩
theorem fl_X0_19 : mm_F RX0 19 0 2 := ⟨by decide, by decide, (mw_in 86 (by decide +kernel) (by decide +kernel))⟩
theorem fl_X4_80 : mm_F RX4 80 0 2 := ⟨by decide, by decide, (mw_in 87 (by decide +kernel) (by decide +kernel))⟩
theorem fl_X2_176 : mm_F RX2 176 0 2 := ⟨by decide, by decide, (mw_in 88 (by decide +kernel) (by decide +kernel))⟩
theorem fl_X4_12 : mm_F RX4 12 4 0 := ⟨by decide, by decide, (mw_in 103 (by decide +kernel) (by decide +kernel))⟩
theorem fl_X2_87 : mm_F RX2 87 4 0 := ⟨by decide, by decide, (mw_in 104 (by decide +kernel) (by decide +kernel))⟩
theorem fl_X4_18 : mm_F RX4 18 4 1 := ⟨by decide, by decide, (mw_in 105 (by decide +kernel) (by decide +kernel))⟩
theorem fl_X4_22 : mm_F RX4 22 4 2 := ⟨by decide, by decide, (mw_in 106 (by decide +kernel) (by decide +kernel))⟩
theorem fl_X4_25 : mm_F RX4 25 4 3 := ⟨by decide, by decide, (mw_in 107 (by decide +kernel) (by decide +kernel))⟩
theorem fl_X4_36 : mm_F RX4 36 4 4 := ⟨by decide, by decide, (mw_in 108 (by decide +kernel) (by decide +kernel))⟩
theorem fl_X2_126 : mm_F RX2 126 4 4 := ⟨by decide, by decide, (mw_in 109 (by decide +kernel) (by decide +kernel))⟩
theorem fl_X4_40 : mm_F RX4 40 4 5 := ⟨by decide, by decide, (mw_in 110 (by decide +kernel) (by decide +kernel))⟩
theorem fl_X2_140 : mm_F RX2 140 4 5 := ⟨by decide, by decide, (mw_in 111 (by decide +kernel) (by decide +kernel))⟩
theorem fl_X4_44 : mm_F RX4 44 4 6 := ⟨by decide, by decide, (mw_in 112 (by decide +kernel) (by decide +kernel))⟩
theorem fl_X2_103 : mm_F RX2 103 4 6 := ⟨by decide, by decide, (mw_in 113 (by decide +kernel) (by decide +kernel))⟩
theorem fl_X4_47 : mm_F RX4 47 4 7 := ⟨by decide, by decide, (mw_in 114 (by decide +kernel) (by decide +kernel))⟩
theorem fl_X2_106 : mm_F RX2 106 4 7 := ⟨by decide, by decide, (mw_in 115 (by decide +kernel) (by decide +kernel))⟩
theorem fl_X2_11 : mm_F RX2 11 2 0 := ⟨by decide, by decide, (mw_in 133 (by decide +kernel) (by decide +kernel))⟩
theorem fl_X2_17 : mm_F RX2 17 2 1 := ⟨by decide, by decide, (mw_in 134 (by decide +kernel) (by decide +kernel))⟩
theorem fl_X2_24 : mm_F RX2 24 2 2 := ⟨by decide, by decide, (mw_in 135 (by decide +kernel) (by decide +kernel))⟩
theorem fl_X7_92 : mm_F RX7 92 2 2 := ⟨by decide, by decide, (mw_in 136 (by decide +kernel) (by decide +kernel))⟩
theorem fl_X2_31 : mm_F RX2 31 2 3 := ⟨by decide, by decide, (mw_in 137 (by decide +kernel) (by decide +kernel))⟩
theorem fl_X2_55 : mm_F RX2 55 2 4 := ⟨by decide, by decide, (mw_in 138 (by decide +kernel) (by decide +kernel))⟩
theorem fl_X2_58 : mm_F RX2 58 2 5 := ⟨by decide, by decide, (mw_in 139 (by decide +kernel) (by decide +kernel))⟩
theorem fl_X2_61 : mm_F RX2 61 2 6 := ⟨by decide, by decide, (mw_in 140 (by decide +kernel) (by decide +kernel))⟩
theorem fl_X2_35 : mm_F RX2 35 2 7 := ⟨by decide, by decide, (mw_in 141 (by decide +kernel) (by decide +kernel))⟩
theorem fl_X2_39 : mm_F RX2 39 2 8 := ⟨by decide, by decide, (mw_in 142 (by decide +kernel) (by decide +kernel))⟩
theorem fl_X2_64 : mm_F RX2 64 2 9 := ⟨by decide, by decide, (mw_in 143 (by decide +kernel) (by decide +kernel))⟩
theorem fl_X2_67 : mm_F RX2 67 2 10 := ⟨by decide, by decide, (mw_in 144 (by decide +kernel) (by decide +kernel))⟩
theorem fl_X2_70 : mm_F RX2 70 2 11 := ⟨by decide, by decide, (mw_in 145 (by decide +kernel) (by decide +kernel))⟩
theorem fl_X3_11 : mm_F RX3 11 3 0 := ⟨by decide, by decide, (mw_in 180 (by decide +kernel) (by decide +kernel))⟩
theorem fl_X3_26 : mm_F RX3 26 3 1 := ⟨by decide, by decide, (mw_in 181 (by decide +kernel) (by decide +kernel))⟩
theorem fl_X3_30 : mm_F RX3 30 3 2 := ⟨by decide, by decide, (mw_in 182 (by decide +kernel) (by decide +kernel))⟩
theorem fl_X7_116 : mm_F RX7 116 3 2 := ⟨by decide, by decide, (mw_in 183 (by decide +kernel) (by decide +kernel))⟩
theorem fl_X5_9 : mm_F RX5 9 5 0 := ⟨by decide, by decide, (mw_in 197 (by decide +kernel) (by decide +kernel))⟩
theorem fl_X5_15 : mm_F RX5 15 5 1 := ⟨by decide, by decide, (mw_in 198 (by decide +kernel) (by decide +kernel))⟩
theorem fl_X5_23 : mm_F RX5 23 5 2 := ⟨by decide, by decide, (mw_in 199 (by decide +kernel) (by decide +kernel))⟩
theorem fl_X6_29 : mm_F RX6 29 5 2 := ⟨by decide, by decide, (mw_in 200 (by decide +kernel) (by decide +kernel))⟩
theorem fl_X7_120 : mm_F RX7 120 5 2 := ⟨by decide, by decide, (mw_in 201 (by decide +kernel) (by decide +kernel))⟩
theorem fl_X6_53 : mm_F RX6 53 5 3 := ⟨by decide, by decide, (mw_in 202 (by decide +kernel) (by decide +kernel))⟩
theorem fl_X5_35 : mm_F RX5 35 5 3 := ⟨by decide, by decide, (mw_in 203 (by decide +kernel) (by decide +kernel))⟩
theorem fl_X6_42 : mm_F RX6 42 5 4 := ⟨by decide, by decide, (mw_in 204 (by decide +kernel) (by decide +kernel))⟩
theorem fl_X5_28 : mm_F RX5 28 5 4 := ⟨by decide, by decide, (mw_in 205 (by decide +kernel) (by decide +kernel))⟩
theorem fl_X6_12 : mm_F RX6 12 6 0 := ⟨by decide, by decide, (mw_in 225 (by decide +kernel) (by decide +kernel))⟩
theorem fl_X7_156 : mm_F RX7 156 6 0 := ⟨by decide, by decide, (mw_in 226 (by decide +kernel) (by decide +kernel))⟩
theorem fl_X6_22 : mm_F RX6 22 6 1 := ⟨by decide, by decide, (mw_in 227 (by decide +kernel) (by decide +kernel))⟩
theorem fl_X7_162 : mm_F RX7 162 6 1 := ⟨by decide, by decide, (mw_in 228 (by decide +kernel) (by decide +kernel))⟩
theorem fl_X6_73 : mm_F RX6 73 6 2 := ⟨by decide, by decide, (mw_in 229 (by decide +kernel) (by decide +kernel))⟩
theorem fl_X7_149 : mm_F RX7 149 6 2 := ⟨by decide, by decide, (mw_in 230 (by decide +kernel) (by decide +kernel))⟩
theorem fl_X6_26 : mm_F RX6 26 6 3 := ⟨by decide, by decide, (mw_in 231 (by decide +kernel) (by decide +kernel))⟩
theorem fl_X7_145 : mm_F RX7 145 6 3 := ⟨by decide, by decide, (mw_in 232 (by decide +kernel) (by decide +kernel))⟩
theorem fl_X6_76 : mm_F RX6 76 6 4 := ⟨by decide, by decide, (mw_in 233 (by decide +kernel) (by decide +kernel))⟩
theorem fl_X7_152 : mm_F RX7 152 6 4 := ⟨by decide, by decide, (mw_in 234 (by decide +kernel) (by decide +kernel))⟩
theorem fl_X7_10 : mm_F RX7 10 7 0 := ⟨by decide, by decide, (mw_in 246 (by decide +kernel) (by decide +kernel))⟩
theorem fl_X7_19 : mm_F RX7 19 7 1 := ⟨by decide, by decide, (mw_in 247 (by decide +kernel) (by decide +kernel))⟩
theorem fl_X7_26 : mm_F RX7 26 7 2 := ⟨by decide, by decide, (mw_in 248 (by decide +kernel) (by decide +kernel))⟩
theorem fl_X7_33 : mm_F RX7 33 7 3 := ⟨by decide, by decide, (mw_in 249 (by decide +kernel) (by decide +kernel))⟩
theorem fl_X8_7 : mm_F RX8 7 8 0 := ⟨by decide, by decide, (mw_in 703 (by decide +kernel) (by decide +kernel))⟩
theorem fl_X8_13 : mm_F RX8 13 8 1 := ⟨by decide, by decide, (mw_in 704 (by decide +kernel) (by decide +kernel))⟩
theorem fl_X8_16 : mm_F RX8 16 8 2 := ⟨by decide, by decide, (mw_in 705 (by decide +kernel) (by decide +kernel))⟩
theorem fl_X8_32 : mm_F RX8 32 8 3 := ⟨by decide, by decide, (mw_in 706 (by decide +kernel) (by decide +kernel))⟩
theorem fl_X8_28 : mm_F RX8 28 8 4 := ⟨by decide, by decide, (mw_in 707 (by decide +kernel) (by decide +kernel))⟩
theorem fl_X8_19 : mm_F RX8 19 8 5 := ⟨by decide, by decide, (mw_in 708 (by decide +kernel) (by decide +kernel))⟩
theorem fl_X8_148 : mm_F RX8 148 8 6 := ⟨by decide, by decide, (mw_in 709 (by decide +kernel) (by decide +kernel))⟩
theorem fl_X8_22 : mm_F RX8 22 8 7 := ⟨by decide, by decide, (mw_in 710 (by decide +kernel) (by decide +kernel))⟩
theorem fl_X8_47 : mm_F RX8 47 8 8 := ⟨by decide, by decide, (mw_in 711 (by decide +kernel) (by decide +kernel))⟩
theorem fl_X8_151 : mm_F RX8 151 8 9 := ⟨by decide, by decide, (mw_in 712 (by decide +kernel) (by decide +kernel))⟩
theorem fl_X8_184 : mm_F RX8 184 8 10 := ⟨by decide, by decide, (mw_in 713 (by decide +kernel) (by decide +kernel))⟩
theorem fl_X8_197 : mm_F RX8 197 8 11 := ⟨by decide, by decide, (mw_in 714 (by decide +kernel) (by decide +kernel))⟩
theorem fl_X8_200 : mm_F RX8 200 8 12 := ⟨by decide, by decide, (mw_in 715 (by decide +kernel) (by decide +kernel))⟩
theorem fl_X8_187 : mm_F RX8 187 8 13 := ⟨by decide, by decide, (mw_in 716 (by decide +kernel) (by decide +kernel))⟩
theorem fl_X8_157 : mm_F RX8 157 8 14 := ⟨by decide, by decide, (mw_in 717 (by decide +kernel) (by decide +kernel))⟩
theorem fl_X8_25 : mm_F RX8 25 8 15 := ⟨by decide, by decide, (mw_in 718 (by decide +kernel) (by decide +kernel))⟩
theorem lk_L_9 : mm_LI RL 9 yX7_init := ⟨(mw_in 47 (by decide +kernel) (by decide +kernel)), im_X7_init, rfl⟩
theorem li_X7_1 : Cond.methodLink RX7 1 objectInit ∈ mw_all := (mw_in 50 (by decide +kernel) (by decide +kernel))
theorem lk_X7_9 : mm_LI RX7 9 yX2_init := ⟨(mw_in 55 (by decide +kernel) (by decide +kernel)), im_X2_init, rfl⟩
theorem li_X2_3 : Cond.methodLink RX2 3 objectInit ∈ mw_all := (mw_in 58 (by decide +kernel) (by decide +kernel))
theorem li_X1_3 : Cond.methodLink RX1 3 objectInit ∈ mw_all := (mw_in 66 (by decide +kernel) (by decide +kernel))
theorem li_X0_3 : Cond.methodLink RX0 3 objectInit ∈ mw_all := (mw_in 81 (by decide +kernel) (by decide +kernel))
theorem li_X4_3 : Cond.methodLink RX4 3 objectInit ∈ mw_all := (mw_in 100 (by decide +kernel) (by decide +kernel))
theorem lk_X7_18 : mm_LI RX7 18 yX3_init := ⟨(mw_in 173 (by decide +kernel) (by decide +kernel)), im_X3_init, rfl⟩
theorem li_X3_3 : Cond.methodLink RX3 3 objectInit ∈ mw_all := (mw_in 176 (by decide +kernel) (by decide +kernel))
theorem lk_X3_17 : mm_LI RX3 17 yX2_init := ⟨(mw_in 179 (by decide +kernel) (by decide +kernel)), im_X2_init, rfl⟩
theorem li_X5_3 : Cond.methodLink RX5 3 objectInit ∈ mw_all := (mw_in 196 (by decide +kernel) (by decide +kernel))
theorem li_X6_3 : Cond.methodLink RX6 3 objectInit ∈ mw_all := (mw_in 222 (by decide +kernel) (by decide +kernel))
theorem lk_X6_11 : mm_LI RX6 11 yX2_init := ⟨(mw_in 224 (by decide +kernel) (by decide +kernel)), im_X2_init, rfl⟩
theorem lk_L_13 : mm_LV RL 13 yX7_lot := ⟨(mw_in 259 (by decide +kernel) (by decide +kernel)), im_X7_lot, se_X7_lot⟩
theorem lk_X7_37 : mm_LV RX7 37 yX3_draft := ⟨(mw_in 263 (by decide +kernel) (by decide +kernel)), im_X3_draft, se_X3_draft⟩
theorem lk_X3_18 : mm_LV RX3 18 yX3_nextRow := ⟨(mw_in 267 (by decide +kernel) (by decide +kernel)), im_X3_nextRow, se_X3_nextRow⟩
theorem lk_X3_22 : mm_LV RX3 22 yX2_copyEstate := ⟨(mw_in 271 (by decide +kernel) (by decide +kernel)), im_X2_copyEstate, se_X2_copyEstate⟩
theorem lk_X2_43 : mm_LV RX2 43 yX4_copyLot := ⟨(mw_in 275 (by decide +kernel) (by decide +kernel)), im_X4_copyLot, se_X4_copyLot⟩
theorem lk_X4_28 : mm_LV RX4 28 yX0_copyBarrels := ⟨(mw_in 279 (by decide +kernel) (by decide +kernel)), im_X0_copyBarrels, se_X0_copyBarrels⟩
theorem lk_X2_51 : mm_LV RX2 51 yX1_copyBook := ⟨(mw_in 288 (by decide +kernel) (by decide +kernel)), im_X1_copyBook, se_X1_copyBook⟩
theorem lk_X7_41 : mm_LV RX7 41 yX2_addLot := ⟨(mw_in 293 (by decide +kernel) (by decide +kernel)), im_X2_addLot, se_X2_addLot⟩
theorem lk_X2_83 : mm_LV RX2 83 yX2_lotAt := ⟨(mw_in 302 (by decide +kernel) (by decide +kernel)), im_X2_lotAt, se_X2_lotAt⟩
theorem lk_X2_90 : mm_LV RX2 90 yX0_fill := ⟨(mw_in 306 (by decide +kernel) (by decide +kernel)), im_X0_fill, se_X0_fill⟩
theorem lk_X7_45 : mm_LV RX7 45 yX7_settled := ⟨(mw_in 310 (by decide +kernel) (by decide +kernel)), im_X7_settled, se_X7_settled⟩
theorem lk_X7_165 : mm_LV RX7 165 yX3_keepDraft := ⟨(mw_in 314 (by decide +kernel) (by decide +kernel)), im_X3_keepDraft, se_X3_keepDraft⟩
theorem lk_X3_33 : Cond.methodLink RX3 33 Lib.Math.min.name ∈ mw_all := (mw_in 318 (by decide +kernel) (by decide +kernel))
theorem lk_L_18 : mm_LV RL 18 yX7_taste := ⟨(mw_in 321 (by decide +kernel) (by decide +kernel)), im_X7_taste, se_X7_taste⟩
theorem lk_X7_49 : mm_LV RX7 49 yX2_tasteLot := ⟨(mw_in 325 (by decide +kernel) (by decide +kernel)), im_X2_tasteLot, se_X2_tasteLot⟩
theorem lk_X2_94 : mm_LV RX2 94 yX0_barrelForTasting := ⟨(mw_in 329 (by decide +kernel) (by decide +kernel)), im_X0_barrelForTasting, se_X0_barrelForTasting⟩
theorem lk_X2_99 : mm_LV RX2 99 yX0_takeSip := ⟨(mw_in 334 (by decide +kernel) (by decide +kernel)), im_X0_takeSip, se_X0_takeSip⟩
theorem lk_X0_30 : mm_LV RX0 30 yX0_leaveOut := ⟨(mw_in 338 (by decide +kernel) (by decide +kernel)), im_X0_leaveOut, se_X0_leaveOut⟩
theorem lk_X2_109 : mm_LV RX2 109 yX4_quote := ⟨(mw_in 342 (by decide +kernel) (by decide +kernel)), im_X4_quote, se_X4_quote⟩
theorem lk_L_22 : mm_LV RL 22 yX7_top := ⟨(mw_in 346 (by decide +kernel) (by decide +kernel)), im_X7_top, se_X7_top⟩
theorem lk_X7_52 : mm_LV RX7 52 yX2_topLot := ⟨(mw_in 350 (by decide +kernel) (by decide +kernel)), im_X2_topLot, se_X2_topLot⟩
theorem lk_X2_112 : mm_LV RX2 112 yX0_canBeToppedUp := ⟨(mw_in 354 (by decide +kernel) (by decide +kernel)), im_X0_canBeToppedUp, se_X0_canBeToppedUp⟩
theorem lk_X2_116 : mm_LV RX2 116 yX0_topUp := ⟨(mw_in 358 (by decide +kernel) (by decide +kernel)), im_X0_topUp, se_X0_topUp⟩
theorem lk_X0_34 : Cond.methodLink RX0 34 Lib.Math.min.name ∈ mw_all := (mw_in 362 (by decide +kernel) (by decide +kernel))
theorem lk_L_27 : mm_LV RL 27 yX7_pass := ⟨(mw_in 363 (by decide +kernel) (by decide +kernel)), im_X7_pass, se_X7_pass⟩
theorem lk_X7_55 : mm_LV RX7 55 yX2_passMonths := ⟨(mw_in 367 (by decide +kernel) (by decide +kernel)), im_X2_passMonths, se_X2_passMonths⟩
theorem lk_X2_122 : mm_LV RX2 122 yX0_lose := ⟨(mw_in 371 (by decide +kernel) (by decide +kernel)), im_X0_lose, se_X0_lose⟩
theorem lk_X0_26 : mm_LV RX0 26 yX0_wineBehind := ⟨(mw_in 375 (by decide +kernel) (by decide +kernel)), im_X0_wineBehind, se_X0_wineBehind⟩
theorem lk_L_31 : mm_LV RL 31 yX7_bottle := ⟨(mw_in 379 (by decide +kernel) (by decide +kernel)), im_X7_bottle, se_X7_bottle⟩
theorem lk_X7_58 : mm_LV RX7 58 yX2_bottleLot := ⟨(mw_in 383 (by decide +kernel) (by decide +kernel)), im_X2_bottleLot, se_X2_bottleLot⟩
theorem lk_X2_130 : mm_LV RX2 130 yX4_fillBottles := ⟨(mw_in 387 (by decide +kernel) (by decide +kernel)), im_X4_fillBottles, se_X4_fillBottles⟩
theorem lk_X4_58 : mm_LV RX4 58 yX0_casesBehind := ⟨(mw_in 391 (by decide +kernel) (by decide +kernel)), im_X0_casesBehind, se_X0_casesBehind⟩
theorem lk_X4_83 : mm_LV RX4 83 yX0_fill := ⟨(mw_in 395 (by decide +kernel) (by decide +kernel)), im_X0_fill, se_X0_fill⟩
theorem lk_X2_133 : mm_LV RX2 133 yX4_allHeld := ⟨(mw_in 396 (by decide +kernel) (by decide +kernel)), im_X4_allHeld, se_X4_allHeld⟩
theorem lk_X2_136 : mm_LV RX2 136 yX2_cutFutures := ⟨(mw_in 403 (by decide +kernel) (by decide +kernel)), im_X2_cutFutures, se_X2_cutFutures⟩
theorem lk_X2_143 : mm_LV RX2 143 yX4_cutOf := ⟨(mw_in 407 (by decide +kernel) (by decide +kernel)), im_X4_cutOf, se_X4_cutOf⟩
theorem lk_X4_65 : mm_LV RX4 65 yX4_heldBy := ⟨(mw_in 411 (by decide +kernel) (by decide +kernel)), im_X4_heldBy, se_X4_heldBy⟩
theorem lk_X2_147 : mm_LV RX2 147 yX4_takeBack := ⟨(mw_in 418 (by decide +kernel) (by decide +kernel)), im_X4_takeBack, se_X4_takeBack⟩
theorem lk_X4_62 : mm_LV RX4 62 yX4_paidBy := ⟨(mw_in 422 (by decide +kernel) (by decide +kernel)), im_X4_paidBy, se_X4_paidBy⟩
theorem lk_X4_72 : mm_LV RX4 72 yX4_give := ⟨(mw_in 426 (by decide +kernel) (by decide +kernel)), im_X4_give, se_X4_give⟩
theorem lk_X2_151 : mm_LV RX2 151 yX2_payEstate := ⟨(mw_in 430 (by decide +kernel) (by decide +kernel)), im_X2_payEstate, se_X2_payEstate⟩
theorem lk_X2_73 : mm_LV RX2 73 yX2_hasBuyer := ⟨(mw_in 434 (by decide +kernel) (by decide +kernel)), im_X2_hasBuyer, se_X2_hasBuyer⟩
theorem lk_X2_155 : mm_LV RX2 155 yX1_write := ⟨(mw_in 439 (by decide +kernel) (by decide +kernel)), im_X1_write, se_X1_write⟩
theorem lk_L_35 : mm_LV RL 35 yX7_buyer := ⟨(mw_in 443 (by decide +kernel) (by decide +kernel)), im_X7_buyer, se_X7_buyer⟩
theorem lk_X7_61 : mm_LV RX7 61 yX2_addBuyer := ⟨(mw_in 447 (by decide +kernel) (by decide +kernel)), im_X2_addBuyer, se_X2_addBuyer⟩
theorem lk_L_40 : mm_LV RL 40 yX7_sell := ⟨(mw_in 451 (by decide +kernel) (by decide +kernel)), im_X7_sell, se_X7_sell⟩
theorem lk_X7_65 : mm_LV RX7 65 yX2_sellFutures := ⟨(mw_in 455 (by decide +kernel) (by decide +kernel)), im_X2_sellFutures, se_X2_sellFutures⟩
theorem lk_X2_159 : mm_LV RX2 159 yX2_expectedCases := ⟨(mw_in 459 (by decide +kernel) (by decide +kernel)), im_X2_expectedCases, se_X2_expectedCases⟩
theorem lk_X2_211 : mm_LV RX2 211 yX0_casesBehind := ⟨(mw_in 463 (by decide +kernel) (by decide +kernel)), im_X0_casesBehind, se_X0_casesBehind⟩
theorem lk_X2_163 : mm_LV RX2 163 yX4_give := ⟨(mw_in 464 (by decide +kernel) (by decide +kernel)), im_X4_give, se_X4_give⟩
theorem lk_X2_167 : mm_LV RX2 167 yX4_heldBy := ⟨(mw_in 465 (by decide +kernel) (by decide +kernel)), im_X4_heldBy, se_X4_heldBy⟩
theorem lk_L_45 : mm_LV RL 45 yX7_trade := ⟨(mw_in 466 (by decide +kernel) (by decide +kernel)), im_X7_trade, se_X7_trade⟩
theorem lk_X7_69 : mm_LV RX7 69 yX2_tradeFutures := ⟨(mw_in 470 (by decide +kernel) (by decide +kernel)), im_X2_tradeFutures, se_X2_tradeFutures⟩
theorem lk_L_50 : mm_LV RL 50 yX7_redeem := ⟨(mw_in 474 (by decide +kernel) (by decide +kernel)), im_X7_redeem, se_X7_redeem⟩
theorem lk_X7_73 : mm_LV RX7 73 yX2_redeemFutures := ⟨(mw_in 478 (by decide +kernel) (by decide +kernel)), im_X2_redeemFutures, se_X2_redeemFutures⟩
theorem lk_X2_170 : mm_LV RX2 170 yX4_deliver := ⟨(mw_in 482 (by decide +kernel) (by decide +kernel)), im_X4_deliver, se_X4_deliver⟩
theorem lk_X4_76 : mm_LV RX4 76 yX4_takeBack := ⟨(mw_in 486 (by decide +kernel) (by decide +kernel)), im_X4_takeBack, se_X4_takeBack⟩
theorem lk_X2_173 : mm_LV RX2 173 yX4_casesNow := ⟨(mw_in 487 (by decide +kernel) (by decide +kernel)), im_X4_casesNow, se_X4_casesNow⟩
theorem lk_X4_54 : mm_LV RX4 54 yX4_allDelivered := ⟨(mw_in 491 (by decide +kernel) (by decide +kernel)), im_X4_allDelivered, se_X4_allDelivered⟩
theorem lk_L_55 : mm_LV RL 55 yX7_set := ⟨(mw_in 495 (by decide +kernel) (by decide +kernel)), im_X7_set, se_X7_set⟩
theorem lk_X7_77 : mm_LV RX7 77 yX2_changeSetting := ⟨(mw_in 499 (by decide +kernel) (by decide +kernel)), im_X2_changeSetting, se_X2_changeSetting⟩
theorem lk_L_59 : mm_LV RL 59 yX7_lotOf := ⟨(mw_in 503 (by decide +kernel) (by decide +kernel)), im_X7_lotOf, se_X7_lotOf⟩
theorem lk_X7_80 : mm_LV RX7 80 yX2_lotValue := ⟨(mw_in 507 (by decide +kernel) (by decide +kernel)), im_X2_lotValue, se_X2_lotValue⟩
theorem lk_X2_186 : mm_LV RX2 186 yX4_allDelivered := ⟨(mw_in 512 (by decide +kernel) (by decide +kernel)), im_X4_allDelivered, se_X4_allDelivered⟩
theorem lk_L_63 : mm_LV RL 63 yX7_barrel := ⟨(mw_in 513 (by decide +kernel) (by decide +kernel)), im_X7_barrel, se_X7_barrel⟩
theorem lk_X7_83 : mm_LV RX7 83 yX2_barrelValue := ⟨(mw_in 517 (by decide +kernel) (by decide +kernel)), im_X2_barrelValue, se_X2_barrelValue⟩
theorem lk_L_67 : mm_LV RL 67 yX7_holding := ⟨(mw_in 521 (by decide +kernel) (by decide +kernel)), im_X7_holding, se_X7_holding⟩
theorem lk_X7_86 : mm_LV RX7 86 yX2_holdingValue := ⟨(mw_in 525 (by decide +kernel) (by decide +kernel)), im_X2_holdingValue, se_X2_holdingValue⟩
theorem lk_X2_189 : mm_LV RX2 189 yX4_paidBy := ⟨(mw_in 529 (by decide +kernel) (by decide +kernel)), im_X4_paidBy, se_X4_paidBy⟩
theorem lk_X2_192 : mm_LV RX2 192 yX4_deliveredTo := ⟨(mw_in 530 (by decide +kernel) (by decide +kernel)), im_X4_deliveredTo, se_X4_deliveredTo⟩
theorem lk_X2_195 : mm_LV RX2 195 yX2_meanPaid := ⟨(mw_in 534 (by decide +kernel) (by decide +kernel)), im_X2_meanPaid, se_X2_meanPaid⟩
theorem lk_L_71 : mm_LV RL 71 yX7_account := ⟨(mw_in 542 (by decide +kernel) (by decide +kernel)), im_X7_account, se_X7_account⟩
theorem lk_X7_89 : mm_LV RX7 89 yX2_accountValue := ⟨(mw_in 546 (by decide +kernel) (by decide +kernel)), im_X2_accountValue, se_X2_accountValue⟩
theorem lk_L_75 : mm_LV RL 75 yX7_entry := ⟨(mw_in 550 (by decide +kernel) (by decide +kernel)), im_X7_entry, se_X7_entry⟩
theorem lk_X7_96 : mm_LV RX7 96 yX1_cell := ⟨(mw_in 554 (by decide +kernel) (by decide +kernel)), im_X1_cell, se_X1_cell⟩
theorem lk_L_79 : mm_LV RL 79 yX7_cases := ⟨(mw_in 561 (by decide +kernel) (by decide +kernel)), im_X7_cases, se_X7_cases⟩
theorem lk_X7_101 : mm_LV RX7 101 yX2_forecastCases := ⟨(mw_in 565 (by decide +kernel) (by decide +kernel)), im_X2_forecastCases, se_X2_forecastCases⟩
theorem lk_L_83 : mm_LV RL 83 yX7_sellable := ⟨(mw_in 569 (by decide +kernel) (by decide +kernel)), im_X7_sellable, se_X7_sellable⟩
theorem lk_X7_104 : mm_LV RX7 104 yX2_sellableFutures := ⟨(mw_in 573 (by decide +kernel) (by decide +kernel)), im_X2_sellableFutures, se_X2_sellableFutures⟩
theorem lk_X2_214 : Cond.methodLink RX2 214 Lib.Math.max.name ∈ mw_all := (mw_in 577 (by decide +kernel) (by decide +kernel))
theorem lk_L_87 : mm_LV RL 87 yX7_deadline := ⟨(mw_in 580 (by decide +kernel) (by decide +kernel)), im_X7_deadline, se_X7_deadline⟩
theorem lk_X7_107 : mm_LV RX7 107 yX2_monthsUntilTooFew := ⟨(mw_in 584 (by decide +kernel) (by decide +kernel)), im_X2_monthsUntilTooFew, se_X2_monthsUntilTooFew⟩
theorem lk_X2_219 : mm_LV RX2 219 yX0_copyBarrels := ⟨(mw_in 588 (by decide +kernel) (by decide +kernel)), im_X0_copyBarrels, se_X0_copyBarrels⟩
theorem lk_L_91 : mm_LV RL 91 yX7_topping := ⟨(mw_in 589 (by decide +kernel) (by decide +kernel)), im_X7_topping, se_X7_topping⟩
theorem lk_X7_110 : mm_LV RX7 110 yX2_gainByTopping := ⟨(mw_in 593 (by decide +kernel) (by decide +kernel)), im_X2_gainByTopping, se_X2_gainByTopping⟩
theorem lk_L_95 : mm_LV RL 95 yX7_loser := ⟨(mw_in 597 (by decide +kernel) (by decide +kernel)), im_X7_loser, se_X7_loser⟩
theorem lk_X7_113 : mm_LV RX7 113 yX2_greatestLoss := ⟨(mw_in 601 (by decide +kernel) (by decide +kernel)), im_X2_greatestLoss, se_X2_greatestLoss⟩
theorem lk_L_99 : mm_LV RL 99 yX7_count := ⟨(mw_in 605 (by decide +kernel) (by decide +kernel)), im_X7_count, se_X7_count⟩
theorem lk_X7_123 : mm_LV RX7 123 yX2_number := ⟨(mw_in 609 (by decide +kernel) (by decide +kernel)), im_X2_number, se_X2_number⟩
theorem lk_X2_202 : mm_LV RX2 202 yX2_totalOfLots := ⟨(mw_in 613 (by decide +kernel) (by decide +kernel)), im_X2_totalOfLots, se_X2_totalOfLots⟩
theorem lk_X2_208 : mm_LV RX2 208 yX2_lotValue := ⟨(mw_in 617 (by decide +kernel) (by decide +kernel)), im_X2_lotValue, se_X2_lotValue⟩
theorem lk_L_103 : mm_LV RL 103 yX7_undo := ⟨(mw_in 618 (by decide +kernel) (by decide +kernel)), im_X7_undo, se_X7_undo⟩
theorem lk_X7_126 : mm_LV RX7 126 yX3_restore := ⟨(mw_in 622 (by decide +kernel) (by decide +kernel)), im_X3_restore, se_X3_restore⟩
theorem lk_L_107 : mm_LV RL 107 yX7_type := ⟨(mw_in 627 (by decide +kernel) (by decide +kernel)), im_X7_type, se_X7_type⟩
theorem lk_X7_130 : mm_LV RX7 130 yX5_append := ⟨(mw_in 631 (by decide +kernel) (by decide +kernel)), im_X5_append, se_X5_append⟩
theorem lk_L_111 : mm_LV RL 111 yX7_clearText := ⟨(mw_in 638 (by decide +kernel) (by decide +kernel)), im_X7_clearText, se_X7_clearText⟩
theorem lk_X7_133 : mm_LV RX7 133 yX5_empty := ⟨(mw_in 642 (by decide +kernel) (by decide +kernel)), im_X5_empty, se_X5_empty⟩
theorem lk_L_115 : mm_LV RL 115 yX7_fault := ⟨(mw_in 646 (by decide +kernel) (by decide +kernel)), im_X7_fault, se_X7_fault⟩
theorem lk_X7_136 : mm_LS RX7 136 yX7_within := ⟨(mw_in 650 (by decide +kernel) (by decide +kernel)), sm_X7_within⟩
theorem lk_X7_141 : mm_LV RX7 141 yX6_run := ⟨(mw_in 652 (by decide +kernel) (by decide +kernel)), im_X6_run, se_X6_run⟩
theorem lk_X6_18 : mm_LV RX6 18 yX2_copyEstate := ⟨(mw_in 656 (by decide +kernel) (by decide +kernel)), im_X2_copyEstate, se_X2_copyEstate⟩
theorem lk_X6_34 : mm_LV RX6 34 yX5_read := ⟨(mw_in 657 (by decide +kernel) (by decide +kernel)), im_X5_read, se_X5_read⟩
theorem lk_X5_31 : mm_LV RX5 31 yX5_sign := ⟨(mw_in 661 (by decide +kernel) (by decide +kernel)), im_X5_sign, se_X5_sign⟩
theorem lk_X5_38 : mm_LV RX5 38 yX5_numbersOf := ⟨(mw_in 665 (by decide +kernel) (by decide +kernel)), im_X5_numbersOf, se_X5_numbersOf⟩
theorem lk_X5_42 : mm_LV RX5 42 yX5_readNumber := ⟨(mw_in 669 (by decide +kernel) (by decide +kernel)), im_X5_readNumber, se_X5_readNumber⟩
theorem lk_X6_38 : mm_LV RX6 38 yX6_answerOf := ⟨(mw_in 673 (by decide +kernel) (by decide +kernel)), im_X6_answerOf, se_X6_answerOf⟩
theorem lk_X6_49 : mm_LV RX6 49 yX5_numberAt := ⟨(mw_in 677 (by decide +kernel) (by decide +kernel)), im_X5_numberAt, se_X5_numberAt⟩
theorem lk_X6_56 : mm_LV RX6 56 yX2_addLot := ⟨(mw_in 681 (by decide +kernel) (by decide +kernel)), im_X2_addLot, se_X2_addLot⟩
theorem lk_X6_60 : mm_LV RX6 60 yX2_sellFutures := ⟨(mw_in 682 (by decide +kernel) (by decide +kernel)), im_X2_sellFutures, se_X2_sellFutures⟩
theorem lk_X6_64 : mm_LV RX6 64 yX2_tasteLot := ⟨(mw_in 683 (by decide +kernel) (by decide +kernel)), im_X2_tasteLot, se_X2_tasteLot⟩
theorem lk_X6_67 : mm_LV RX6 67 yX2_passMonths := ⟨(mw_in 684 (by decide +kernel) (by decide +kernel)), im_X2_passMonths, se_X2_passMonths⟩
theorem lk_X6_70 : mm_LV RX6 70 yX2_bottleLot := ⟨(mw_in 685 (by decide +kernel) (by decide +kernel)), im_X2_bottleLot, se_X2_bottleLot⟩
theorem lk_X6_45 : mm_LV RX6 45 yX6_blame := ⟨(mw_in 686 (by decide +kernel) (by decide +kernel)), im_X6_blame, se_X6_blame⟩
theorem lk_L_119 : mm_LV RL 119 yX7_play := ⟨(mw_in 691 (by decide +kernel) (by decide +kernel)), im_X7_play, se_X7_play⟩
theorem lk_X7_159 : mm_LV RX7 159 yX2_copyEstate := ⟨(mw_in 696 (by decide +kernel) (by decide +kernel)), im_X2_copyEstate, se_X2_copyEstate⟩
theorem lk_L_12 : mm_LI RL 12 yX8_init := ⟨(mw_in 699 (by decide +kernel) (by decide +kernel)), im_X8_init, rfl⟩
theorem li_X8_1 : Cond.methodLink RX8 1 objectInit ∈ mw_all := (mw_in 702 (by decide +kernel) (by decide +kernel))
theorem lk_L_17 : mm_LV RL 17 yX8_lot := ⟨(mw_in 752 (by decide +kernel) (by decide +kernel)), im_X8_lot, se_X8_lot⟩
theorem lk_X8_72 : mm_LS RX8 72 yX8_in := ⟨(mw_in 756 (by decide +kernel) (by decide +kernel)), sm_X8_in⟩
theorem lk_X8_78 : mm_LV RX8 78 yX8_changes := ⟨(mw_in 761 (by decide +kernel) (by decide +kernel)), im_X8_changes, se_X8_changes⟩
theorem lk_L_21 : mm_LV RL 21 yX8_taste := ⟨(mw_in 765 (by decide +kernel) (by decide +kernel)), im_X8_taste, se_X8_taste⟩
theorem lk_X8_81 : mm_LV RX8 81 yX8_isLot := ⟨(mw_in 769 (by decide +kernel) (by decide +kernel)), im_X8_isLot, se_X8_isLot⟩
theorem lk_X8_62 : mm_LV RX8 62 yX8_loads := ⟨(mw_in 773 (by decide +kernel) (by decide +kernel)), im_X8_loads, se_X8_loads⟩
theorem lk_X8_36 : mm_LV RX8 36 yX8_of := ⟨(mw_in 777 (by decide +kernel) (by decide +kernel)), im_X8_of, se_X8_of⟩
theorem lk_X8_85 : mm_LV RX8 85 yX8_isOpen := ⟨(mw_in 781 (by decide +kernel) (by decide +kernel)), im_X8_isOpen, se_X8_isOpen⟩
theorem lk_X8_88 : mm_LV RX8 88 yX8_tasted := ⟨(mw_in 785 (by decide +kernel) (by decide +kernel)), im_X8_tasted, se_X8_tasted⟩
theorem lk_X8_50 : mm_LV RX8 50 yX8_leaves := ⟨(mw_in 791 (by decide +kernel) (by decide +kernel)), im_X8_leaves, se_X8_leaves⟩
theorem lk_X8_92 : mm_LV RX8 92 yX8_lays := ⟨(mw_in 795 (by decide +kernel) (by decide +kernel)), im_X8_lays, se_X8_lays⟩
theorem lk_X8_95 : mm_LV RX8 95 yX8_quote := ⟨(mw_in 799 (by decide +kernel) (by decide +kernel)), im_X8_quote, se_X8_quote⟩
theorem lk_L_26 : mm_LV RL 26 yX8_top := ⟨(mw_in 803 (by decide +kernel) (by decide +kernel)), im_X8_top, se_X8_top⟩
theorem lk_X8_69 : mm_LV RX8 69 yX8_needy := ⟨(mw_in 807 (by decide +kernel) (by decide +kernel)), im_X8_needy, se_X8_needy⟩
theorem lk_X8_98 : mm_LV RX8 98 yX8_tops := ⟨(mw_in 811 (by decide +kernel) (by decide +kernel)), im_X8_tops, se_X8_tops⟩
theorem lk_L_30 : mm_LV RL 30 yX8_pass := ⟨(mw_in 815 (by decide +kernel) (by decide +kernel)), im_X8_pass, se_X8_pass⟩
theorem lk_X8_101 : mm_LV RX8 101 yX8_passes := ⟨(mw_in 819 (by decide +kernel) (by decide +kernel)), im_X8_passes, se_X8_passes⟩
theorem lk_X8_53 : mm_LV RX8 53 yX8_month := ⟨(mw_in 823 (by decide +kernel) (by decide +kernel)), im_X8_month, se_X8_month⟩
theorem lk_L_34 : mm_LV RL 34 yX8_bottle := ⟨(mw_in 827 (by decide +kernel) (by decide +kernel)), im_X8_bottle, se_X8_bottle⟩
theorem lk_X8_58 : mm_LV RX8 58 yX8_all := ⟨(mw_in 831 (by decide +kernel) (by decide +kernel)), im_X8_all, se_X8_all⟩
theorem lk_X8_104 : mm_LV RX8 104 yX8_allHeld := ⟨(mw_in 835 (by decide +kernel) (by decide +kernel)), im_X8_allHeld, se_X8_allHeld⟩
theorem lk_X8_44 : mm_LV RX8 44 yX8_holds := ⟨(mw_in 839 (by decide +kernel) (by decide +kernel)), im_X8_holds, se_X8_holds⟩
theorem lk_X8_40 : mm_LS RX8 40 yX8_hold := ⟨(mw_in 843 (by decide +kernel) (by decide +kernel)), sm_X8_hold⟩
theorem lk_X8_107 : mm_LV RX8 107 yX8_wouldCut := ⟨(mw_in 846 (by decide +kernel) (by decide +kernel)), im_X8_wouldCut, se_X8_wouldCut⟩
theorem lk_X8_111 : mm_LV RX8 111 yX8_goes := ⟨(mw_in 850 (by decide +kernel) (by decide +kernel)), im_X8_goes, se_X8_goes⟩
theorem lk_X8_114 : mm_LV RX8 114 yX8_enters := ⟨(mw_in 854 (by decide +kernel) (by decide +kernel)), im_X8_enters, se_X8_enters⟩
theorem lk_L_39 : mm_LV RL 39 yX8_buyer := ⟨(mw_in 858 (by decide +kernel) (by decide +kernel)), im_X8_buyer, se_X8_buyer⟩
theorem lk_L_44 : mm_LV RL 44 yX8_sell := ⟨(mw_in 862 (by decide +kernel) (by decide +kernel)), im_X8_sell, se_X8_sell⟩
theorem lk_X8_118 : mm_LV RX8 118 yX8_isBuyer := ⟨(mw_in 866 (by decide +kernel) (by decide +kernel)), im_X8_isBuyer, se_X8_isBuyer⟩
theorem lk_X8_121 : mm_LS RX8 121 yX8_areCases := ⟨(mw_in 870 (by decide +kernel) (by decide +kernel)), sm_X8_areCases⟩
theorem lk_X8_125 : mm_LV RX8 125 yX8_expected := ⟨(mw_in 873 (by decide +kernel) (by decide +kernel)), im_X8_expected, se_X8_expected⟩
theorem lk_X8_66 : mm_LV RX8 66 yX8_casesIn := ⟨(mw_in 877 (by decide +kernel) (by decide +kernel)), im_X8_casesIn, se_X8_casesIn⟩
theorem lk_X8_128 : mm_LV RX8 128 yX8_comes := ⟨(mw_in 881 (by decide +kernel) (by decide +kernel)), im_X8_comes, se_X8_comes⟩
theorem lk_L_49 : mm_LV RL 49 yX8_trade := ⟨(mw_in 885 (by decide +kernel) (by decide +kernel)), im_X8_trade, se_X8_trade⟩
theorem lk_L_54 : mm_LV RL 54 yX8_redeem := ⟨(mw_in 889 (by decide +kernel) (by decide +kernel)), im_X8_redeem, se_X8_redeem⟩
theorem lk_L_58 : mm_LV RL 58 yX8_set := ⟨(mw_in 893 (by decide +kernel) (by decide +kernel)), im_X8_set, se_X8_set⟩
theorem lk_L_62 : mm_LV RL 62 yX8_lotOf := ⟨(mw_in 897 (by decide +kernel) (by decide +kernel)), im_X8_lotOf, se_X8_lotOf⟩
theorem lk_L_66 : mm_LV RL 66 yX8_barrel := ⟨(mw_in 901 (by decide +kernel) (by decide +kernel)), im_X8_barrel, se_X8_barrel⟩
theorem lk_L_70 : mm_LV RL 70 yX8_holding := ⟨(mw_in 905 (by decide +kernel) (by decide +kernel)), im_X8_holding, se_X8_holding⟩
theorem lk_X8_138 : mm_LV RX8 138 yX8_mean := ⟨(mw_in 909 (by decide +kernel) (by decide +kernel)), im_X8_mean, se_X8_mean⟩
theorem lk_X8_132 : mm_LS RX8 132 yJxf58ca_floatToIntBits_5c35a := ⟨(mw_in 913 (by decide +kernel) (by decide +kernel)), sm_Jxf58ca_floatToIntBits_5c35a⟩
theorem lk_Jxf58ca_59 : mm_LS RJxf58ca 59 yJxf58ca_isNaN_12338 := ⟨(mw_in 916 (by decide +kernel) (by decide +kernel)), sm_Jxf58ca_isNaN_12338⟩
theorem lk_Jxf58ca_74 : Cond.methodLink RJxf58ca 74 ⟨"java/lang/Float", "floatToRawIntBits", "(F)I"⟩ ∈ mw_all := (mw_in 919 (by decide +kernel) (by decide +kernel))
theorem lk_L_74 : mm_LV RL 74 yX8_account := ⟨(mw_in 923 (by decide +kernel) (by decide +kernel)), im_X8_account, se_X8_account⟩
theorem lk_L_78 : mm_LV RL 78 yX8_entry := ⟨(mw_in 927 (by decide +kernel) (by decide +kernel)), im_X8_entry, se_X8_entry⟩
theorem lk_L_82 : mm_LV RL 82 yX8_cases := ⟨(mw_in 931 (by decide +kernel) (by decide +kernel)), im_X8_cases, se_X8_cases⟩
theorem lk_L_86 : mm_LV RL 86 yX8_sellable := ⟨(mw_in 935 (by decide +kernel) (by decide +kernel)), im_X8_sellable, se_X8_sellable⟩
theorem lk_L_90 : mm_LV RL 90 yX8_deadline := ⟨(mw_in 939 (by decide +kernel) (by decide +kernel)), im_X8_deadline, se_X8_deadline⟩
theorem lk_L_94 : mm_LV RL 94 yX8_topping := ⟨(mw_in 943 (by decide +kernel) (by decide +kernel)), im_X8_topping, se_X8_topping⟩
theorem lk_L_98 : mm_LV RL 98 yX8_loser := ⟨(mw_in 947 (by decide +kernel) (by decide +kernel)), im_X8_loser, se_X8_loser⟩
theorem lk_L_102 : mm_LV RL 102 yX8_count := ⟨(mw_in 951 (by decide +kernel) (by decide +kernel)), im_X8_count, se_X8_count⟩
theorem lk_X8_141 : mm_LV RX8 141 yX8_accounts := ⟨(mw_in 955 (by decide +kernel) (by decide +kernel)), im_X8_accounts, se_X8_accounts⟩
theorem lk_X8_144 : mm_LV RX8 144 yX8_ofLots := ⟨(mw_in 959 (by decide +kernel) (by decide +kernel)), im_X8_ofLots, se_X8_ofLots⟩
theorem lk_L_106 : mm_LV RL 106 yX8_undo := ⟨(mw_in 963 (by decide +kernel) (by decide +kernel)), im_X8_undo, se_X8_undo⟩
theorem lk_L_110 : mm_LV RL 110 yX8_type := ⟨(mw_in 967 (by decide +kernel) (by decide +kernel)), im_X8_type, se_X8_type⟩
theorem lk_L_114 : mm_LV RL 114 yX8_clearText := ⟨(mw_in 971 (by decide +kernel) (by decide +kernel)), im_X8_clearText, se_X8_clearText⟩
theorem lk_L_118 : mm_LV RL 118 yX8_fault := ⟨(mw_in 975 (by decide +kernel) (by decide +kernel)), im_X8_fault, se_X8_fault⟩
theorem lk_X8_203 : mm_LS RX8 203 yX8_copies := ⟨(mw_in 979 (by decide +kernel) (by decide +kernel)), sm_X8_copies⟩
theorem lk_X8_207 : mm_LV RX8 207 yX8_plays := ⟨(mw_in 982 (by decide +kernel) (by decide +kernel)), im_X8_plays, se_X8_plays⟩
theorem lk_X8_190 : mm_LV RX8 190 yX8_reads := ⟨(mw_in 986 (by decide +kernel) (by decide +kernel)), im_X8_reads, se_X8_reads⟩
theorem lk_X8_154 : mm_LV RX8 154 yX8_isAt := ⟨(mw_in 990 (by decide +kernel) (by decide +kernel)), im_X8_isAt, se_X8_isAt⟩
theorem lk_X8_160 : mm_LS RX8 160 yX8_numbersOf := ⟨(mw_in 994 (by decide +kernel) (by decide +kernel)), sm_X8_numbersOf⟩
theorem lk_X8_163 : mm_LV RX8 163 yX8_number := ⟨(mw_in 997 (by decide +kernel) (by decide +kernel)), im_X8_number, se_X8_number⟩
theorem lk_X8_166 : mm_LV RX8 166 yX8_sign := ⟨(mw_in 1001 (by decide +kernel) (by decide +kernel)), im_X8_sign, se_X8_sign⟩
theorem lk_X8_194 : mm_LV RX8 194 yX8_calls := ⟨(mw_in 1005 (by decide +kernel) (by decide +kernel)), im_X8_calls, se_X8_calls⟩
theorem lk_X8_169 : mm_LV RX8 169 yX8_lot := ⟨(mw_in 1009 (by decide +kernel) (by decide +kernel)), im_X8_lot, se_X8_lot⟩
theorem lk_X8_172 : mm_LV RX8 172 yX8_sell := ⟨(mw_in 1010 (by decide +kernel) (by decide +kernel)), im_X8_sell, se_X8_sell⟩
theorem lk_X8_175 : mm_LV RX8 175 yX8_taste := ⟨(mw_in 1011 (by decide +kernel) (by decide +kernel)), im_X8_taste, se_X8_taste⟩
theorem lk_X8_178 : mm_LV RX8 178 yX8_pass := ⟨(mw_in 1012 (by decide +kernel) (by decide +kernel)), im_X8_pass, se_X8_pass⟩
theorem lk_X8_181 : mm_LV RX8 181 yX8_bottle := ⟨(mw_in 1013 (by decide +kernel) (by decide +kernel)), im_X8_bottle, se_X8_bottle⟩
theorem lk_L_122 : mm_LV RL 122 yX8_play := ⟨(mw_in 1014 (by decide +kernel) (by decide +kernel)), im_X8_play, se_X8_play⟩
theorem lk_X2_23 : mm_LIN RX2 23 yX1_init := ⟨(mw_inN 30 (by decide +kernel) (by decide +kernel)), im_X1_init, rfl⟩
theorem lk_X2_30 : mm_LIN RX2 30 yX0_init := ⟨(mw_inN 45 (by decide +kernel) (by decide +kernel)), im_X0_init, rfl⟩
theorem lk_X2_42 : mm_LIN RX2 42 yX4_init := ⟨(mw_inN 64 (by decide +kernel) (by decide +kernel)), im_X4_init, rfl⟩
theorem lk_X4_11 : mm_LIN RX4 11 yX0_init := ⟨(mw_inN 69 (by decide +kernel) (by decide +kernel)), im_X0_init, rfl⟩
theorem lk_X7_25 : mm_LIN RX7 25 yX5_init := ⟨(mw_inN 160 (by decide +kernel) (by decide +kernel)), im_X5_init, rfl⟩
theorem lk_X7_32 : mm_LIN RX7 32 yX6_init := ⟨(mw_inN 186 (by decide +kernel) (by decide +kernel)), im_X6_init, rfl⟩
theorem lk_X0_22 : mm_LSN RX0 22 yX7_copyRow := ⟨(mw_inN 250 (by decide +kernel) (by decide +kernel)), sm_X7_copyRow⟩
theorem lk_X4_32 : mm_LSN RX4 32 yX7_copyRow := ⟨(mw_inN 253 (by decide +kernel) (by decide +kernel)), sm_X7_copyRow⟩
theorem lk_X2_47 : mm_LSN RX2 47 yX7_copyRow := ⟨(mw_inN 254 (by decide +kernel) (by decide +kernel)), sm_X7_copyRow⟩
theorem lk_X1_15 : mm_LSN RX1 15 yX7_copyRow := ⟨(mw_inN 259 (by decide +kernel) (by decide +kernel)), sm_X7_copyRow⟩
theorem lk_X2_77 : mm_LSN RX2 77 yX7_within := ⟨(mw_inN 264 (by decide +kernel) (by decide +kernel)), sm_X7_within⟩
theorem lk_X4_50 : mm_LSN RX4 50 yX7_sum := ⟨(mw_inN 367 (by decide +kernel) (by decide +kernel)), sm_X7_sum⟩
theorem lk_X4_68 : mm_LSN RX4 68 yX7_share := ⟨(mw_inN 382 (by decide +kernel) (by decide +kernel)), sm_X7_share⟩
theorem lk_X2_182 : mm_LSN RX2 182 yX7_sum := ⟨(mw_inN 478 (by decide +kernel) (by decide +kernel)), sm_X7_sum⟩
theorem lk_X2_198 : mm_LSN RX2 198 yX7_floatBits := ⟨(mw_inN 505 (by decide +kernel) (by decide +kernel)), sm_X7_floatBits⟩
theorem lk_X1_23 : mm_LSN RX1 23 yX7_within := ⟨(mw_inN 525 (by decide +kernel) (by decide +kernel)), sm_X7_within⟩
theorem lk_X5_18 : mm_LSN RX5 18 yX7_within := ⟨(mw_inN 602 (by decide +kernel) (by decide +kernel)), sm_X7_within⟩
theorem ct_X2_81 : Cond.constant RX2 81 (-2000000001) ∈ mw_all := (mw_in 300 (by decide +kernel) (by decide +kernel))
theorem ct_X2_82 : Cond.constant RX2 82 (-2000000003) ∈ mw_all := (mw_in 301 (by decide +kernel) (by decide +kernel))
theorem ct_X2_98 : Cond.constant RX2 98 (-2000000002) ∈ mw_all := (mw_in 333 (by decide +kernel) (by decide +kernel))
theorem ct_X2_154 : Cond.constant RX2 154 (-2000000004) ∈ mw_all := (mw_in 438 (by decide +kernel) (by decide +kernel))
theorem ct_X1_27 : Cond.constant RX1 27 (-2000000001) ∈ mw_all := (mw_in 559 (by decide +kernel) (by decide +kernel))
theorem ct_X1_28 : Cond.constant RX1 28 (-2000000004) ∈ mw_all := (mw_in 560 (by decide +kernel) (by decide +kernel))
theorem ct_X3_39 : Cond.constant RX3 39 (-2000000002) ∈ mw_all := (mw_in 626 (by decide +kernel) (by decide +kernel))
theorem ct_X5_22 : Cond.constant RX5 22 (-2000000001) ∈ mw_all := (mw_in 636 (by decide +kernel) (by decide +kernel))
theorem ct_X5_27 : Cond.constant RX5 27 (-2000000003) ∈ mw_all := (mw_in 637 (by decide +kernel) (by decide +kernel))
theorem ct_X7_140 : Cond.constant RX7 140 (-2000000001) ∈ mw_all := (mw_in 651 (by decide +kernel) (by decide +kernel))
theorem ct_X7_148 : Cond.constant RX7 148 (-2000000004) ∈ mw_all := (mw_in 690 (by decide +kernel) (by decide +kernel))
theorem ct_X7_155 : Cond.constant RX7 155 (-2000000002) ∈ mw_all := (mw_in 695 (by decide +kernel) (by decide +kernel))
theorem ct_X8_76 : Cond.constant RX8 76 (-2000000001) ∈ mw_all := (mw_in 759 (by decide +kernel) (by decide +kernel))
theorem ct_X8_77 : Cond.constant RX8 77 (-2000000003) ∈ mw_all := (mw_in 760 (by decide +kernel) (by decide +kernel))
theorem ct_X8_57 : Cond.constant RX8 57 (-2000000004) ∈ mw_all := (mw_in 789 (by decide +kernel) (by decide +kernel))
theorem ct_X8_91 : Cond.constant RX8 91 (-2000000002) ∈ mw_all := (mw_in 790 (by decide +kernel) (by decide +kernel))
theorem ct_Jxf58ca_77 : Cond.constant RJxf58ca 77 (2143289344) ∈ mw_all := (mw_in 922 (by decide +kernel) (by decide +kernel))
theorem ct_X7_168 : Cond.constantFloat RX7 168 1258291200 ∈ mw_all := (mw_in 541 (by decide +kernel) (by decide +kernel))
theorem cl_L_7 : Cond.classLink RL 7 RX7 ∈ mw_all := (mw_in 45 (by decide +kernel) (by decide +kernel))
theorem cl_X7_7 : Cond.classLink RX7 7 RX2 ∈ mw_all := (mw_in 53 (by decide +kernel) (by decide +kernel))
theorem cl_X2_9 : Cond.classLink RX2 9 RX4 ∈ mw_all := (mw_in 59 (by decide +kernel) (by decide +kernel))
theorem cl_X2_21 : Cond.classLink RX2 21 RX1 ∈ mw_all := (mw_in 61 (by decide +kernel) (by decide +kernel))
theorem cl_X2_28 : Cond.classLink RX2 28 RX0 ∈ mw_all := (mw_in 76 (by decide +kernel) (by decide +kernel))
theorem cl_X4_9 : Cond.classLink RX4 9 RX0 ∈ mw_all := (mw_in 101 (by decide +kernel) (by decide +kernel))
theorem cl_X7_16 : Cond.classLink RX7 16 RX3 ∈ mw_all := (mw_in 171 (by decide +kernel) (by decide +kernel))
theorem cl_X3_9 : Cond.classLink RX3 9 RX2 ∈ mw_all := (mw_in 177 (by decide +kernel) (by decide +kernel))
theorem cl_X7_23 : Cond.classLink RX7 23 RX5 ∈ mw_all := (mw_in 191 (by decide +kernel) (by decide +kernel))
theorem cl_X7_30 : Cond.classLink RX7 30 RX6 ∈ mw_all := (mw_in 217 (by decide +kernel) (by decide +kernel))
theorem cl_X6_9 : Cond.classLink RX6 9 RX2 ∈ mw_all := (mw_in 223 (by decide +kernel) (by decide +kernel))
theorem cl_L_10 : Cond.classLink RL 10 RX8 ∈ mw_all := (mw_in 697 (by decide +kernel) (by decide +kernel))
theorem oi_im : Cond.instanceMethod objectInit ∈ mw_all := (mw_in 51 (by decide +kernel) (by decide +kernel))
theorem oi_code : Cond.code objectInit ⟨#[0xb1]⟩ 1 none ∈ mw_all := (mw_in 52 (by decide +kernel) (by decide +kernel))
theorem min_st : Cond.static Lib.Math.min.name ∈ mw_all := (mw_in 319 (by decide +kernel) (by decide +kernel))
theorem min_code : Cond.code Lib.Math.min.name Lib.Math.min.code 2 (some .int) ∈ mw_all := (mw_in 320 (by decide +kernel) (by decide +kernel))
theorem max_st : Cond.static Lib.Math.max.name ∈ mw_all := (mw_in 578 (by decide +kernel) (by decide +kernel))
theorem max_code : Cond.code Lib.Math.max.name Lib.Math.max.code 2 (some .int) ∈ mw_all := (mw_in 579 (by decide +kernel) (by decide +kernel))
theorem raw_nat : Cond.native ⟨"java/lang/Float", "floatToRawIntBits", "(F)I"⟩ ∈ mw_all := (mw_in 921 (by decide +kernel) (by decide +kernel))
theorem raw_st : Cond.static ⟨"java/lang/Float", "floatToRawIntBits", "(F)I"⟩ ∈ mw_all := (mw_in 920 (by decide +kernel) (by decide +kernel))
end
section
section mmCalls
variable {X : mm_X} {M : mm_M} {mc ms pc : Nat} {lv : List (Nat × Value)} {st : List Value} {S : mm_S} {I : mm_I} {cl sl : Nat}
theorem mm_G.at {lv' : List (Nat × Value)} (k : mm_G X M mc ms pc lv' st S I cl sl) (hs : ∀ k v, mm_get lv' k = some v → mm_get lv k = some v) : mm_G X M mc ms pc lv st S I cl sl := mm_G.sub hs k
/-- the ints, by what is known of them -/
theorem mm_G.gen {P : mm_I → Prop} (h : P I) (k : ∀ J : mm_I, P J → mm_G X M mc ms pc lv st S J cl sl) : mm_G X M mc ms pc lv st S I cl sl := k I h
theorem mm_tope {x y : Int32} (h : x = y) (k : mm_G X M mc ms pc lv (.int y :: st) S I cl sl) : mm_G X M mc ms pc lv (.int x :: st) S I cl sl := h ▸ k
/-- contracts by what is returned: an int, nothing, a reference or null; no cell is made -/
def mm_ci (N : mm_M) (as : List Value) (S : mm_S) (I : mm_I) (Q : Int32 → mm_I → Prop) : Prop := mm_ct N as S I (fun v I' => ∃ r, v = some (.int r) ∧ Q r I')
def mm_cv (N : mm_M) (as : List Value) (S : mm_S) (I : mm_I) (Q : mm_I → Prop) : Prop := mm_ct N as S I (fun v I' => v = none ∧ Q I')
def mm_cr (N : mm_M) (as : List Value) (S : mm_S) (I : mm_I) (Q : Option Nat → mm_I → Prop) : Prop := mm_ct N as S I (fun v I' => ∃ r, v = some (va_rf r) ∧ Q r I')
theorem mm_ci.to {N : mm_M} {as : List Value} {Q Q' : Int32 → mm_I → Prop} (h : mm_ci N as S I Q) (hq : ∀ r I', Q r I' → Q' r I') : mm_ci N as S I Q' := mm_Ct.to h (fun v S' I' q => by obtain ⟨q1, r, q2, q3⟩ := q; exact ⟨q1, r, q2, hq r I' q3⟩)
theorem mm_cv.to {N : mm_M} {as : List Value} {Q Q' : mm_I → Prop} (h : mm_cv N as S I Q) (hq : ∀ I', Q I' → Q' I') : mm_cv N as S I Q' := mm_Ct.to h (fun v S' I' q => by obtain ⟨q1, q2, q3⟩ := q; exact ⟨q1, q2, hq I' q3⟩)
theorem mm_cr.to {N : mm_M} {as : List Value} {Q Q' : Option Nat → mm_I → Prop} (h : mm_cr N as S I Q) (hq : ∀ r I', Q r I' → Q' r I') : mm_cr N as S I Q' := mm_Ct.to h (fun v S' I' q => by obtain ⟨q1, r, q2, q3⟩ := q; exact ⟨q1, r, q2, hq r I' q3⟩)
/-- the body's goal, by kind -/
abbrev mm_Gi (M : mm_M) (Q : Int32 → mm_I → Prop) (pc : Nat) (lv : List (Nat × Value)) (st : List Value) (S0 S : mm_S) (I : mm_I) : Prop := mm_G (mm_XM 0 0 (fun v S' I' => S' = S0 ∧ ∃ r, v = some (.int r) ∧ Q r I')) M 0 0 pc lv st S I 0 0
abbrev mm_Gv (M : mm_M) (Q : mm_I → Prop) (pc : Nat) (lv : List (Nat × Value)) (st : List Value) (S0 S : mm_S) (I : mm_I) : Prop := mm_G (mm_XM 0 0 (fun v S' I' => S' = S0 ∧ v = none ∧ Q I')) M 0 0 pc lv st S I 0 0
abbrev mm_Gr (M : mm_M) (Q : Option Nat → mm_I → Prop) (pc : Nat) (lv : List (Nat × Value)) (st : List Value) (S0 S : mm_S) (I : mm_I) : Prop := mm_G (mm_XM 0 0 (fun v S' I' => S' = S0 ∧ ∃ r, v = some (va_rf r) ∧ Q r I')) M 0 0 pc lv st S I 0 0
theorem mm_ci.of {n : Nat} {as : List Value} {Q : Int32 → mm_I → Prop} (hM : mm_ok M n) (hc : as.all (fun v => v.category == 1) = true) (hn : (lg_sl as).length ≤ M.2.2.2.1) {lv : List (Nat × Value)} (hlv : lv_args 0 as = lv) (body : mm_Gi M Q 0 lv [] S S I) : mm_ci M as S I Q := mm_ct.of hM hc hn hlv body
theorem mm_cv.of {n : Nat} {as : List Value} {Q : mm_I → Prop} (hM : mm_ok M n) (hc : as.all (fun v => v.category == 1) = true) (hn : (lg_sl as).length ≤ M.2.2.2.1) {lv : List (Nat × Value)} (hlv : lv_args 0 as = lv) (body : mm_Gv M Q 0 lv [] S S I) : mm_cv M as S I Q := mm_ct.of hM hc hn hlv body
theorem mm_cr.of {n : Nat} {as : List Value} {Q : Option Nat → mm_I → Prop} (hM : mm_ok M n) (hc : as.all (fun v => v.category == 1) = true) (hn : (lg_sl as).length ≤ M.2.2.2.1) {lv : List (Nat × Value)} (hlv : lv_args 0 as = lv) (body : mm_Gr M Q 0 lv [] S S I) : mm_cr M as S I Q := mm_ct.of hM hc hn hlv body
theorem mm_Vi {N : mm_M} {n idx ci a : Nat} {as rest st0 : List Value} {Qc : Int32 → mm_I → Prop} (hd : decode M.2.2.1 pc = .ok (.invokevirtual idx, 3)) (hl : mm_LV M.1 idx N.2.1) (hN : mm_ok N n) (hlev : N.2.2.2.2.2 + 1 ≤ M.2.2.2.2.2) (hn : as.length = n) (hc : ci < 9) (hcy : mm_cR ci = N.2.1.cls) (ha : (S.2.1 a).1 = ci) (hst : st0 = as.reverse ++ .ref a :: rest) (hw : (rest.map fun v => v.category).sum ≤ 8) (hct : mm_ci N (.ref a :: as) S I Qc) (kk : ∀ (r : Int32) (I' : mm_I), Qc r I' → mm_G X M mc ms (pc + 3) lv (.int r :: rest) S I' cl sl) (hcl : cl ≤ mc := by exact Nat.le_refl _) (hsl : sl ≤ ms := by exact Nat.le_refl _) : mm_G X M mc ms pc lv st0 S I cl sl :=
  mm_Vm hd hl hN hlev hn hc hcy ha hst hw hct hcl hsl (fun v S' I' q => by obtain ⟨h1, r, rfl, h2⟩ := q; subst h1; exact kk r I' h2)
theorem mm_Si {N : mm_M} {n idx : Nat} {as rest st0 : List Value} {Qc : Int32 → mm_I → Prop} (hd : decode M.2.2.1 pc = .ok (.invokestatic idx, 3)) (hl : mm_LS M.1 idx N.2.1) (hN : mm_ok N n) (hlev : N.2.2.2.2.2 + 1 ≤ M.2.2.2.2.2) (hn : as.length = n) (hst : st0 = as.reverse ++ rest) (hw : (rest.map fun v => v.category).sum ≤ 8) (hct : mm_ci N as S I Qc) (kk : ∀ (r : Int32) (I' : mm_I), Qc r I' → mm_G X M mc ms (pc + 3) lv (.int r :: rest) S I' cl sl) (hcl : cl ≤ mc := by exact Nat.le_refl _) (hsl : sl ≤ ms := by exact Nat.le_refl _) : mm_G X M mc ms pc lv st0 S I cl sl :=
  mm_Sm hd hl hN hlev hn hst hw hct hcl hsl (fun v S' I' q => by obtain ⟨h1, r, rfl, h2⟩ := q; subst h1; exact kk r I' h2)
theorem mm_SNi {N : mm_M} {n idx : Nat} {as rest st0 : List Value} {Qc : Int32 → mm_I → Prop} (hd : decode M.2.2.1 pc = .ok (.invokestatic idx, 3)) (hl : mm_LSN M.1 idx N.2.1) (hN : mm_ok N n) (hlev : N.2.2.2.2.2 + 1 ≤ M.2.2.2.2.2) (hn : as.length = n) (hst : st0 = as.reverse ++ rest) (hw : (rest.map fun v => v.category).sum ≤ 8) (hct : mm_ci N as S I Qc) (kk : ∀ (r : Int32) (I' : mm_I), Qc r I' → mm_G X M mc ms (pc + 3) lv (.int r :: rest) S I' cl sl) (hcl : cl ≤ mc := by exact Nat.le_refl _) (hsl : sl ≤ ms := by exact Nat.le_refl _) : mm_G X M mc ms pc lv st0 S I cl sl :=
  mm_SNm hd hl hN hlev hn hst hw hct hcl hsl (fun v S' I' q => by obtain ⟨h1, r, rfl, h2⟩ := q; subst h1; exact kk r I' h2)
theorem mm_Vv {N : mm_M} {n idx ci a : Nat} {as rest st0 : List Value} {Qc : mm_I → Prop} (hd : decode M.2.2.1 pc = .ok (.invokevirtual idx, 3)) (hl : mm_LV M.1 idx N.2.1) (hN : mm_ok N n) (hlev : N.2.2.2.2.2 + 1 ≤ M.2.2.2.2.2) (hn : as.length = n) (hc : ci < 9) (hcy : mm_cR ci = N.2.1.cls) (ha : (S.2.1 a).1 = ci) (hst : st0 = as.reverse ++ .ref a :: rest) (hw : (rest.map fun v => v.category).sum ≤ 8) (hct : mm_cv N (.ref a :: as) S I Qc) (kk : ∀ (I' : mm_I), Qc I' → mm_G X M mc ms (pc + 3) lv (rest) S I' cl sl) (hcl : cl ≤ mc := by exact Nat.le_refl _) (hsl : sl ≤ ms := by exact Nat.le_refl _) : mm_G X M mc ms pc lv st0 S I cl sl :=
  mm_Vm hd hl hN hlev hn hc hcy ha hst hw hct hcl hsl (fun v S' I' q => by obtain ⟨h1, rfl, h2⟩ := q; subst h1; exact kk I' h2)
theorem mm_Sv {N : mm_M} {n idx : Nat} {as rest st0 : List Value} {Qc : mm_I → Prop} (hd : decode M.2.2.1 pc = .ok (.invokestatic idx, 3)) (hl : mm_LS M.1 idx N.2.1) (hN : mm_ok N n) (hlev : N.2.2.2.2.2 + 1 ≤ M.2.2.2.2.2) (hn : as.length = n) (hst : st0 = as.reverse ++ rest) (hw : (rest.map fun v => v.category).sum ≤ 8) (hct : mm_cv N as S I Qc) (kk : ∀ (I' : mm_I), Qc I' → mm_G X M mc ms (pc + 3) lv (rest) S I' cl sl) (hcl : cl ≤ mc := by exact Nat.le_refl _) (hsl : sl ≤ ms := by exact Nat.le_refl _) : mm_G X M mc ms pc lv st0 S I cl sl :=
  mm_Sm hd hl hN hlev hn hst hw hct hcl hsl (fun v S' I' q => by obtain ⟨h1, rfl, h2⟩ := q; subst h1; exact kk I' h2)
theorem mm_SNv {N : mm_M} {n idx : Nat} {as rest st0 : List Value} {Qc : mm_I → Prop} (hd : decode M.2.2.1 pc = .ok (.invokestatic idx, 3)) (hl : mm_LSN M.1 idx N.2.1) (hN : mm_ok N n) (hlev : N.2.2.2.2.2 + 1 ≤ M.2.2.2.2.2) (hn : as.length = n) (hst : st0 = as.reverse ++ rest) (hw : (rest.map fun v => v.category).sum ≤ 8) (hct : mm_cv N as S I Qc) (kk : ∀ (I' : mm_I), Qc I' → mm_G X M mc ms (pc + 3) lv (rest) S I' cl sl) (hcl : cl ≤ mc := by exact Nat.le_refl _) (hsl : sl ≤ ms := by exact Nat.le_refl _) : mm_G X M mc ms pc lv st0 S I cl sl :=
  mm_SNm hd hl hN hlev hn hst hw hct hcl hsl (fun v S' I' q => by obtain ⟨h1, rfl, h2⟩ := q; subst h1; exact kk I' h2)
theorem mm_Vr {N : mm_M} {n idx ci a : Nat} {as rest st0 : List Value} {Qc : Option Nat → mm_I → Prop} (hd : decode M.2.2.1 pc = .ok (.invokevirtual idx, 3)) (hl : mm_LV M.1 idx N.2.1) (hN : mm_ok N n) (hlev : N.2.2.2.2.2 + 1 ≤ M.2.2.2.2.2) (hn : as.length = n) (hc : ci < 9) (hcy : mm_cR ci = N.2.1.cls) (ha : (S.2.1 a).1 = ci) (hst : st0 = as.reverse ++ .ref a :: rest) (hw : (rest.map fun v => v.category).sum ≤ 8) (hct : mm_cr N (.ref a :: as) S I Qc) (kk : ∀ (r : Option Nat) (I' : mm_I), Qc r I' → mm_G X M mc ms (pc + 3) lv (va_rf r :: rest) S I' cl sl) (hcl : cl ≤ mc := by exact Nat.le_refl _) (hsl : sl ≤ ms := by exact Nat.le_refl _) : mm_G X M mc ms pc lv st0 S I cl sl :=
  mm_Vm hd hl hN hlev hn hc hcy ha hst hw hct hcl hsl (fun v S' I' q => by obtain ⟨h1, r, rfl, h2⟩ := q; subst h1; exact kk r I' h2)
theorem mm_Sr {N : mm_M} {n idx : Nat} {as rest st0 : List Value} {Qc : Option Nat → mm_I → Prop} (hd : decode M.2.2.1 pc = .ok (.invokestatic idx, 3)) (hl : mm_LS M.1 idx N.2.1) (hN : mm_ok N n) (hlev : N.2.2.2.2.2 + 1 ≤ M.2.2.2.2.2) (hn : as.length = n) (hst : st0 = as.reverse ++ rest) (hw : (rest.map fun v => v.category).sum ≤ 8) (hct : mm_cr N as S I Qc) (kk : ∀ (r : Option Nat) (I' : mm_I), Qc r I' → mm_G X M mc ms (pc + 3) lv (va_rf r :: rest) S I' cl sl) (hcl : cl ≤ mc := by exact Nat.le_refl _) (hsl : sl ≤ ms := by exact Nat.le_refl _) : mm_G X M mc ms pc lv st0 S I cl sl :=
  mm_Sm hd hl hN hlev hn hst hw hct hcl hsl (fun v S' I' q => by obtain ⟨h1, r, rfl, h2⟩ := q; subst h1; exact kk r I' h2)
theorem mm_SNr {N : mm_M} {n idx : Nat} {as rest st0 : List Value} {Qc : Option Nat → mm_I → Prop} (hd : decode M.2.2.1 pc = .ok (.invokestatic idx, 3)) (hl : mm_LSN M.1 idx N.2.1) (hN : mm_ok N n) (hlev : N.2.2.2.2.2 + 1 ≤ M.2.2.2.2.2) (hn : as.length = n) (hst : st0 = as.reverse ++ rest) (hw : (rest.map fun v => v.category).sum ≤ 8) (hct : mm_cr N as S I Qc) (kk : ∀ (r : Option Nat) (I' : mm_I), Qc r I' → mm_G X M mc ms (pc + 3) lv (va_rf r :: rest) S I' cl sl) (hcl : cl ≤ mc := by exact Nat.le_refl _) (hsl : sl ≤ ms := by exact Nat.le_refl _) : mm_G X M mc ms pc lv st0 S I cl sl :=
  mm_SNm hd hl hN hlev hn hst hw hct hcl hsl (fun v S' I' q => by obtain ⟨h1, r, rfl, h2⟩ := q; subst h1; exact kk r I' h2)
end mmCalls
end
section
/-! THE STATIC HELPERS of WineFutures -/
def mm_row (I : mm_I) (b n : Nat) (f : Nat → Int32) : mm_I := fun c j => if c = b ∧ j < n then f j else I c j
def is_sum (f : Nat → Int32) : Nat → Int32
  | 0 => 0
  | n + 1 => is_sum f n + f n
theorem mm_row_in {I : mm_I} {b n j : Nat} {f : Nat → Int32} (h : j < n) : mm_row I b n f b j = f j := by simp [mm_row, h]
theorem mm_row_out {I : mm_I} {b n j : Nat} {f : Nat → Int32} (h : n ≤ j) : mm_row I b n f b j = I b j := by simp [mm_row, Nat.not_lt.mpr h]
theorem mm_row_ne {I : mm_I} {b n c : Nat} {f : Nat → Int32} (h : c ≠ b) : mm_row I b n f c = I c := by funext j; simp [mm_row, h]
theorem mm_row_0 {I : mm_I} {b : Nat} {f : Nat → Int32} : mm_row I b 0 f = I := by funext c j; simp [mm_row]
theorem mm_row_S {I : mm_I} {b i : Nat} {f : Nat → Int32} : mm_wr (mm_row I b i f) b i (f i) = mm_row I b (i + 1) f := by
  funext c j
  unfold mm_wr mm_row
  by_cases hc : c = b
  · by_cases hj : j = i
    · subst hj
      simp [hc]
    · simp only [hc, hj, true_and, and_false, if_false]
      by_cases h : j < i
      · simp [h, Nat.lt_succ_of_lt h]
      · simp [h, show ¬ j < i + 1 by omega]
  · simp [hc]
theorem mm_row_wr {I : mm_I} {b n a k : Nat} {f : Nat → Int32} {x : Int32} (h : a ≠ b) : mm_row (mm_wr I a k x) b n f = mm_wr (mm_row I b n f) a k x := by
  funext c j
  unfold mm_wr mm_row
  by_cases hc : c = b
  · subst hc
    simp [Ne.symm h]
  · simp [hc]
theorem is_sum_congr {f g : Nat → Int32} : ∀ n, (∀ k, k < n → f k = g k) → is_sum f n = is_sum g n
  | 0, _ => rfl
  | n + 1, h => by
    show is_sum f n + f n = is_sum g n + g n
    rw [is_sum_congr n (fun k hk => h k (Nat.lt_succ_of_lt hk)), h n (Nat.lt_succ_self n)]

set_option maxRecDepth 100000 in
set_option maxHeartbeats 4000000 in
theorem c_within {S : mm_S} {I : mm_I} {v x y : Int32} : mm_ci mX7_within [.int v, .int x, .int y] S I (fun q J => q = (if x ≤ v ∧ v ≤ y then 1 else 0) ∧ J = I) := by
  refine mm_ci.of okX7_within rfl (Nat.le_of_ble_eq_true rfl) (lv := [(0, .int v), (1, .int x), (2, .int y)]) rfl ?_
  refine mm_iload_n dX7_within_0 rfl rfl ?_
  refine mm_iload_n dX7_within_1 rfl rfl ?_
  refine mm_icmp_lt 14 dX7_within_2 (by decide) (fun c1 => ?_) (fun c1 => ?_)
  · skip
    refine mm_iconst 0 dX7_within_14 rfl ?_
    refine mm_zret dX7_within_15 rfl (by first | exact Or.inl rfl | exact Or.inr rfl | assumption) ?_
    exact ⟨rfl, _, rfl, by first | exact (if_neg (fun q => absurd c1 (Int32.not_lt.mpr q.1))).symm | exact (if_neg (fun q => absurd c2 (Int32.not_lt.mpr q.2))).symm | exact (if_pos ⟨Int32.not_lt.mp c1, Int32.not_lt.mp c2⟩).symm, rfl⟩
  · skip
    refine mm_iload_n dX7_within_5 rfl rfl ?_
    refine mm_iload_n dX7_within_6 rfl rfl ?_
    refine mm_icmp_gt 14 dX7_within_7 (by decide) (fun c2 => ?_) (fun c2 => ?_)
    · skip
      refine mm_iconst 0 dX7_within_14 rfl ?_
      refine mm_zret dX7_within_15 rfl (by first | exact Or.inl rfl | exact Or.inr rfl | assumption) ?_
      exact ⟨rfl, _, rfl, by first | exact (if_neg (fun q => absurd c1 (Int32.not_lt.mpr q.1))).symm | exact (if_neg (fun q => absurd c2 (Int32.not_lt.mpr q.2))).symm | exact (if_pos ⟨Int32.not_lt.mp c1, Int32.not_lt.mp c2⟩).symm, rfl⟩
    · skip
      refine mm_iconst 1 dX7_within_10 rfl ?_
      refine mm_goto 15 dX7_within_11 (by decide) ?_
      refine mm_zret dX7_within_15 rfl (by first | exact Or.inl rfl | exact Or.inr rfl | assumption) ?_
      exact ⟨rfl, _, rfl, by first | exact (if_neg (fun q => absurd c1 (Int32.not_lt.mpr q.1))).symm | exact (if_neg (fun q => absurd c2 (Int32.not_lt.mpr q.2))).symm | exact (if_pos ⟨Int32.not_lt.mp c1, Int32.not_lt.mp c2⟩).symm, rfl⟩
set_option maxRecDepth 100000 in
set_option maxHeartbeats 4000000 in
theorem c_share {S : mm_S} {I : mm_I} {x y z : Nat} (hx : x < 2 ^ 31) (hy : y < 2 ^ 31) (hz : z < 2 ^ 31) (hq : x * y < 2 ^ 31) : mm_ci mX7_share [.int (nI x), .int (nI y), .int (nI z)] S I (fun q J => q = nI (x * y / z) ∧ J = I) := by
  refine mm_ci.of okX7_share rfl (Nat.le_of_ble_eq_true rfl) (lv := [(0, .int (nI x)), (1, .int (nI y)), (2, .int (nI z))]) rfl ?_
  refine mm_iload_n dX7_share_0 rfl rfl ?_
  refine mm_if_gt 6 dX7_share_1 (by decide) (fun c_1 => ?_) (fun c_1 => ?_)
  · skip
    have hz0 : 0 < z := by
      rcases Nat.eq_zero_or_pos z with e | e
      · subst e; exact absurd c_1 (by decide)
      · exact e
    have hne : ¬ (nI z).toInt64 = 0 := by
      rw [nI_l hz]
      intro e
      have := (lN_eq (a := z) (b := 0) hz (by decide)).mp e
      omega
    refine mm_iload_n dX7_share_6 rfl rfl ?_
    refine mm_i2l dX7_share_7 ?_
    refine mm_iload_n dX7_share_8 rfl rfl ?_
    refine mm_i2l dX7_share_9 ?_
    refine mm_lmul dX7_share_10 ?_
    refine mm_iload_n dX7_share_11 rfl rfl ?_
    refine mm_i2l dX7_share_12 ?_
    refine mm_ldiv dX7_share_13 (by assumption) ?_
    refine mm_l2i dX7_share_14 ?_
    refine mm_iret dX7_share_15 rfl ?_
    exact ⟨rfl, _, rfl, by rw [nI_l hx, nI_l hy, nI_l hz, lN_mul, pk_lDiv (by omega) hz0 (by omega), lN_i], rfl⟩
  · skip
    have hz0 : z = 0 := by
      rcases Nat.eq_zero_or_pos z with e | e
      · exact e
      · exact absurd (nI_lt e hz) c_1
    refine mm_iconst 0 dX7_share_4 rfl ?_
    refine mm_iret dX7_share_5 rfl ?_
    exact ⟨rfl, _, rfl, by rw [hz0, Nat.div_zero]; rfl, rfl⟩
set_option maxRecDepth 100000 in
set_option maxHeartbeats 4000000 in
theorem c_sum {S : mm_S} {I : mm_I} {a N : Nat} (ha : S.2.1 a = (9, N)) (hN : N < 1000) : mm_ci mX7_sum [.ref a] S I (fun q J => q = is_sum (I a) N ∧ J = I) := by
  refine mm_ci.of okX7_sum rfl (Nat.le_of_ble_eq_true rfl) (lv := [(0, .ref a)]) rfl ?_
  have loop : ∀ (n i : Nat), i + n = N → mm_Gi mX7_sum (fun q J => q = is_sum (I a) N ∧ J = I) 4 [(2, .int (nI i)), (1, .int (is_sum (I a) i)), (0, .ref a)] [] S S I := by
    intro n
    induction n with
    | zero =>
      intro i hi
      refine mm_iload_n dX7_sum_4 rfl rfl ?_
      refine mm_aload_n dX7_sum_5 rfl rfl ?_
      refine mm_alen (t := 0) dX7_sum_6 (by assumption) (by decide) _ rfl ?_
      refine mm_icmp_ge 22 dX7_sum_7 (by decide) (fun c_7 => ?_) (fun c_7 => absurd (nI_le (by omega) (by omega)) c_7)
      refine mm_iload_n dX7_sum_22 rfl rfl ?_
      refine mm_iret dX7_sum_23 rfl ?_
      exact ⟨rfl, _, rfl, by rw [show N = i by omega], rfl⟩
    | succ n ih =>
      intro i hi
      refine mm_iload_n dX7_sum_4 rfl rfl ?_
      refine mm_aload_n dX7_sum_5 rfl rfl ?_
      refine mm_alen (t := 0) dX7_sum_6 (by assumption) (by decide) _ rfl ?_
      refine mm_icmp_ge 22 dX7_sum_7 (by decide) (fun c_7 => absurd c_7 (nI_ge (by omega) (by omega))) (fun c_7 => ?_)
      refine mm_iload_n dX7_sum_10 rfl rfl ?_
      refine mm_aload_n dX7_sum_11 rfl rfl ?_
      refine mm_iload_n dX7_sum_12 rfl rfl ?_
      refine mm_iald dX7_sum_13 (by assumption) (vp_in_nI (n := i) (N := N) (by omega) (by omega)) ?_
      rw [nI_clamp (by omega)]
      refine mm_iadd dX7_sum_14 ?_
      refine mm_istore_n dX7_sum_15 rfl (Nat.le_of_ble_eq_true rfl) ?_
      refine mm_iinc 1 dX7_sum_16 rfl rfl (Nat.le_of_ble_eq_true rfl) ?_
      rw [nI_1]
      refine mm_goto 4 dX7_sum_19 (by decide) ?_
      exact mm_G.at (ih (i + 1) (by omega)) (mm_s1 rfl (mm_s1 rfl (mm_s1 rfl mm_s0)))
  refine mm_iconst 0 dX7_sum_0 rfl ?_
  refine mm_istore_n dX7_sum_1 rfl (Nat.le_of_ble_eq_true rfl) ?_
  refine mm_iconst 0 dX7_sum_2 rfl ?_
  refine mm_istore_n dX7_sum_3 rfl (Nat.le_of_ble_eq_true rfl) ?_
  exact mm_G.at (loop N 0 (by omega)) (mm_s1 rfl (mm_s1 rfl (mm_s1 rfl mm_s0)))
set_option maxRecDepth 100000 in
set_option maxHeartbeats 4000000 in
theorem c_copyRow {S : mm_S} {I : mm_I} {a b N : Nat} (ha : S.2.1 a = (9, N)) (hb : S.2.1 b = (9, N)) (hN : N < 1000) : mm_cv mX7_copyRow [.ref a, .ref b] S I (fun J => J = mm_row I b N (I a)) := by
  refine mm_cv.of okX7_copyRow rfl (Nat.le_of_ble_eq_true rfl) (lv := [(0, .ref a), (1, .ref b)]) rfl ?_
  have loop : ∀ (n i : Nat), i + n = N → mm_Gv mX7_copyRow (fun J => J = mm_row I b N (I a)) 2 [(2, .int (nI i)), (0, .ref a), (1, .ref b)] [] S S (mm_row I b i (I a)) := by
    intro n
    induction n with
    | zero =>
      intro i hi
      refine mm_iload_n dX7_copyRow_2 rfl rfl ?_
      refine mm_aload_n dX7_copyRow_3 rfl rfl ?_
      refine mm_alen (t := 0) dX7_copyRow_4 (by assumption) (by decide) _ rfl ?_
      refine mm_icmp_ge 26 dX7_copyRow_5 (by decide) (fun c_5 => ?_) (fun c_5 => absurd (nI_le (by omega) (by omega)) c_5)
      refine mm_vret dX7_copyRow_26 rfl ?_
      exact ⟨rfl, rfl, by rw [show N = i by omega]⟩
    | succ n ih =>
      intro i hi
      have hin : vp_in (nI i) N := vp_in_nI (by omega) (by omega)
      have hrd : mm_row I b i (I a) a i = I a i := by
        by_cases h : a = b
        · subst h; exact mm_row_out (Nat.le_refl _)
        · rw [mm_row_ne h]
      refine mm_iload_n dX7_copyRow_2 rfl rfl ?_
      refine mm_aload_n dX7_copyRow_3 rfl rfl ?_
      refine mm_alen (t := 0) dX7_copyRow_4 (by assumption) (by decide) _ rfl ?_
      refine mm_icmp_ge 26 dX7_copyRow_5 (by decide) (fun c_5 => absurd c_5 (nI_ge (by omega) (by omega))) (fun c_5 => ?_)
      refine mm_iload_n dX7_copyRow_8 rfl rfl ?_
      refine mm_aload_n dX7_copyRow_9 rfl rfl ?_
      refine mm_alen (t := 0) dX7_copyRow_10 (by assumption) (by decide) _ rfl ?_
      refine mm_icmp_ge 26 dX7_copyRow_11 (by decide) (fun c_11 => absurd c_11 (nI_ge (by omega) (by omega))) (fun c_11 => ?_)
      refine mm_aload_n dX7_copyRow_14 rfl rfl ?_
      refine mm_iload_n dX7_copyRow_15 rfl rfl ?_
      refine mm_aload_n dX7_copyRow_16 rfl rfl ?_
      refine mm_iload_n dX7_copyRow_17 rfl rfl ?_
      refine mm_iald dX7_copyRow_18 (by assumption) (by assumption) ?_
      rw [nI_clamp (by omega), hrd]
      refine mm_iast dX7_copyRow_19 (by assumption) (by assumption) ?_
      rw [nI_clamp (by omega), mm_row_S]
      refine mm_iinc 1 dX7_copyRow_20 rfl rfl (Nat.le_of_ble_eq_true rfl) ?_
      rw [nI_1]
      refine mm_goto 2 dX7_copyRow_23 (by decide) ?_
      exact mm_G.at (ih (i + 1) (by omega)) (mm_s1 rfl (mm_s1 rfl (mm_s1 rfl mm_s0)))
  refine mm_iconst 0 dX7_copyRow_0 rfl ?_
  refine mm_istore_n dX7_copyRow_1 rfl (Nat.le_of_ble_eq_true rfl) ?_
  refine mm_G.i (I' := mm_row I b 0 (I a)) mm_row_0.symm ?_
  exact mm_G.at (loop N 0 (by omega)) (mm_s1 rfl (mm_s1 rfl (mm_s1 rfl mm_s0)))
end
section
/-! WINE: what a barrel loses, lists of barrels as functions on places -/
def wb_step (r w : Nat) : Nat := w - (if w < 1800 then 2 * (w * r / 1000) else w * r / 1000)
def wb_it (r : Nat) : Nat → Nat → Nat
  | 0, w => w
  | n + 1, w => wb_it r n (wb_step r w)
def ws_sum (w : Nat → Nat) : Nat → Nat
  | 0 => 0
  | n + 1 => ws_sum w n + w n
theorem wb_loss_le {r w : Nat} (hr : r ≤ 50) : 20 * (w * r / 1000) ≤ w := by
  have h1 : w * r ≤ w * 50 := Nat.mul_le_mul_left w hr
  have h2 : w * r / 1000 * 1000 ≤ w * r := Nat.div_mul_le_self _ _
  omega
theorem wb_step_le {r w : Nat} : wb_step r w ≤ w := Nat.sub_le _ _
theorem wb_step_pos {r w : Nat} (hr : r ≤ 50) (hw : 0 < w) : 0 < wb_step r w := by
  have h := wb_loss_le (w := w) hr
  unfold wb_step
  split <;> omega
theorem wb_step_0 {r w : Nat} (h : w * r / 1000 = 0) : wb_step r w = w := by
  unfold wb_step
  simp [h]
theorem wb_it_0 {r w : Nat} (h : w * r / 1000 = 0) : ∀ n, wb_it r n w = w
  | 0 => rfl
  | n + 1 => by
    show wb_it r n (wb_step r w) = w
    rw [wb_step_0 h]
    exact wb_it_0 h n
theorem wb_it_le {r : Nat} : ∀ (n w : Nat), wb_it r n w ≤ w
  | 0, w => Nat.le_refl w
  | n + 1, w => Nat.le_trans (wb_it_le n _) wb_step_le
theorem wb_it_pos {r : Nat} (hr : r ≤ 50) : ∀ (n w : Nat), 0 < w → 0 < wb_it r n w
  | 0, _, h => h
  | n + 1, w, h => wb_it_pos hr n _ (wb_step_pos hr h)
theorem wb_it_add {r : Nat} : ∀ (n m w : Nat), wb_it r (n + m) w = wb_it r m (wb_it r n w)
  | 0, m, w => by rw [Nat.zero_add]; rfl
  | n + 1, m, w => by
    rw [Nat.add_right_comm]
    exact wb_it_add n m _
theorem ws_sum_le {w : Nat → Nat} {b : Nat} : ∀ n, (∀ k, k < n → w k ≤ b) → ws_sum w n ≤ n * b
  | 0, _ => Nat.zero_le _
  | n + 1, h => by
    have h1 := ws_sum_le (w := w) (b := b) n (fun k hk => h k (Nat.lt_succ_of_lt hk))
    have h2 := h n (Nat.lt_succ_self n)
    rw [Nat.succ_mul]
    exact Nat.add_le_add h1 h2
theorem ws_sum_congr {v w : Nat → Nat} : ∀ n, (∀ k, k < n → v k = w k) → ws_sum v n = ws_sum w n
  | 0, _ => rfl
  | n + 1, h => by
    show ws_sum v n + v n = ws_sum w n + w n
    rw [ws_sum_congr n (fun k hk => h k (Nat.lt_succ_of_lt hk)), h n (Nat.lt_succ_self n)]
theorem ws_sum_mono {v w : Nat → Nat} : ∀ n, (∀ k, k < n → v k ≤ w k) → ws_sum v n ≤ ws_sum w n
  | 0, _ => Nat.le_refl _
  | n + 1, h => Nat.add_le_add (ws_sum_mono n (fun k hk => h k (Nat.lt_succ_of_lt hk))) (h n (Nat.lt_succ_self n))
theorem ws_sum_0 {w : Nat → Nat} {n : Nat} : ∀ m, n ≤ m → (∀ k, n ≤ k → k < m → w k = 0) → ws_sum w m = ws_sum w n
  | 0, h, _ => by rw [Nat.le_zero.mp h]
  | m + 1, h, hz => by
    rcases Nat.lt_or_ge n (m + 1) with h1 | h1
    · show ws_sum w m + w m = _
      rw [hz m (by omega) (Nat.lt_succ_self m), ws_sum_0 m (by omega) (fun k h2 h3 => hz k h2 (Nat.lt_succ_of_lt h3))]
      rfl
    · rw [Nat.le_antisymm h h1]
-- shapes
def mm_bar (S : mm_S) (a : Nat) : Prop := (S.2.1 a).1 = 0 ∧ S.2.2 a 0 = some (a + 1) ∧ S.2.1 (a + 1) = (9, 12)
/-- a lot's barrels: n of them, with w, a rate r -/
def wv_at (I : mm_I) (a n r : Nat) (w : Nat → Nat) : Prop := I a 1 = nI n ∧ I a 2 = nI r ∧ ∀ k, k < 12 → I (a + 1) k = nI (w k)
/-- what holds of wine: at most 12 barrels, 2250 each, none behind the last -/
def wv_ok (n r : Nat) (w : Nat → Nat) : Prop := n ≤ 12 ∧ r ≤ 50 ∧ (∀ k, w k ≤ 2250) ∧ (∀ k, k < n → 0 < w k) ∧ ∀ k, n ≤ k → w k = 0
/-- the first place from i on, of f, where p holds -/
def w_find (p : Nat → Bool) : Nat → Nat → Option Nat
  | _, 0 => none
  | i, f + 1 => if p i = true then some i else w_find p (i + 1) f
theorem w_find_some {p : Nat → Bool} : ∀ {f i k : Nat}, w_find p i f = some k → i ≤ k ∧ k < i + f ∧ p k = true ∧ ∀ j, i ≤ j → j < k → p j = false
  | 0, i, k, h => by cases h
  | f + 1, i, k, h => by
    unfold w_find at h
    split at h
    · rename_i hp
      cases h
      exact ⟨Nat.le_refl _, by omega, hp, fun j h1 h2 => absurd h1 (by omega)⟩
    · rename_i hp
      obtain ⟨h1, h2, h3, h4⟩ := w_find_some h
      refine ⟨by omega, by omega, h3, fun j h5 h6 => ?_⟩
      by_cases hj : j = i
      · subst hj; exact Bool.not_eq_true _ ▸ hp
      · exact h4 j (by omega) h6
theorem w_find_none {p : Nat → Bool} : ∀ {f i : Nat}, w_find p i f = none → ∀ j, i ≤ j → j < i + f → p j = false
  | 0, i, _, j, h1, h2 => absurd h1 (by omega)
  | f + 1, i, h, j, h1, h2 => by
    unfold w_find at h
    split at h
    · cases h
    · rename_i hp
      by_cases hj : j = i
      · subst hj; exact Bool.not_eq_true _ ▸ hp
      · exact w_find_none h j (by omega) (by omega)
def w_del (w : Nat → Nat) (b : Nat) : Nat → Nat := fun k => if k < b then w k else w (k + 1)
def w_sipN (n : Nat) (w : Nat → Nat) (b : Nat) : Nat := if w b = 10 then n - 1 else n
def w_sip (w : Nat → Nat) (b : Nat) : Nat → Nat := if w b = 10 then w_del w b else fun k => if k = b then w k - 10 else w k
def w_by (x n : Nat) (w : Nat → Nat) : Nat := if w (n - 1) < 2250 - w x then w (n - 1) else 2250 - w x
def w_pour (x n : Nat) (w : Nat → Nat) : Nat → Nat := fun k => if k = x then w x + w_by x n w else if k = n - 1 then w (n - 1) - w_by x n w else w k
def w_top : Nat → Nat → Nat → (Nat → Nat) → Nat × (Nat → Nat)
  | 0, _, n, w => (n, w)
  | f + 1, x, n, w => if x + 1 < n then w_top f (if w_pour x n w x < 2250 then x else x + 1) (if w_pour x n w (n - 1) = 0 then n - 1 else n) (w_pour x n w) else (n, w)
theorem w_pour_ok {x n r : Nat} {w : Nat → Nat} (hx : x + 1 < n) (ho : wv_ok n r w) : wv_ok (if w_pour x n w (n - 1) = 0 then n - 1 else n) r (w_pour x n w) := by
  obtain ⟨h1, h2, h3, h4, h5⟩ := ho
  have a1 := h3 x
  have a2 := h3 (n - 1)
  have hb1 : w_by x n w ≤ 2250 - w x := by unfold w_by; split <;> omega
  have hb2 : w_by x n w ≤ w (n - 1) := by unfold w_by; split <;> omega
  refine ⟨by split <;> omega, h2, fun k => ?_, fun k hk => ?_, fun k hk => ?_⟩
  · unfold w_pour
    split
    · omega
    · split
      · omega
      · exact h3 k
  · have hkn : k < n := by
      revert hk
      split <;> omega
    have h6 := h4 k hkn
    have h7 := h4 x (by omega)
    unfold w_pour
    split
    · omega
    · split
      · rename_i e1 e2
        subst e2
        have h8 : ¬ w_pour x n w (n - 1) = 0 := by
          intro e
          rw [if_pos e] at hk
          omega
        unfold w_pour at h8
        rw [if_neg (by omega), if_pos rfl] at h8
        omega
      · exact h6
  · unfold w_pour
    rw [if_neg (by revert hk; split <;> omega)]
    split
    · rename_i e2
      subst e2
      have h8 : w_pour x n w (n - 1) = 0 := by
        rcases Nat.eq_zero_or_pos (w_pour x n w (n - 1)) with e | e
        · exact e
        · rw [if_neg (by omega)] at hk
          omega
      unfold w_pour at h8
      rw [if_neg (by omega), if_pos rfl] at h8
      exact h8
    · exact h5 k (by revert hk; split <;> omega)
theorem nI_m1_le {n i : Nat} (hn : n < 1000) (hi : i < 1000) : (nI n - 1 ≤ nI i) ↔ n ≤ i + 1 := by
  rw [Int32.le_iff_toInt_le, show (1 : Int32) = nI 1 from rfl, pk_sub_toInt (by omega) (by omega), nI_toInt (by omega)]
  omega
theorem nI_m1 {n : Nat} (hn : 0 < n) : nI n - 1 = nI (n - 1) := pk_sub (b := 1) hn

set_option maxRecDepth 100000 in
set_option maxHeartbeats 4000000 in
theorem c_wineBehind {S : mm_S} {I : mm_I} {a r w m : Nat} (hk : (S.2.1 a).1 = 0) (hr : I a 2 = nI r) (hr5 : r ≤ 50) (hw : w ≤ 2250) (hm : m < 1000) : mm_ci mX0_wineBehind [.ref a, .int (nI w), .int (nI m)] S I (fun q J => q = nI (wb_it r m w) ∧ J = I) := by
  refine mm_ci.of okX0_wineBehind rfl (Nat.le_of_ble_eq_true rfl) (lv := [(0, .ref a), (1, .int (nI w)), (2, .int (nI m))]) rfl ?_
  have loop : ∀ (n x i : Nat), i + n = m → x ≤ 2250 → wb_it r n x = wb_it r m w → mm_Gi mX0_wineBehind (fun q J => q = nI (wb_it r m w) ∧ J = I) 5 [(4, .int (nI i)), (3, .int (nI x)), (0, .ref a), (2, .int (nI m))] [] S S I := by
    intro n
    induction n with
    | zero =>
      intro x i hi hx hv
      refine mm_iload dX0_wineBehind_5 rfl ?_
      refine mm_iload_n dX0_wineBehind_7 rfl rfl ?_
      refine mm_icmp_ge 56 dX0_wineBehind_8 (by decide) (fun c_8 => ?_) (fun c_8 => absurd (nI_le (by omega) (by omega)) c_8)
      refine mm_iload_n dX0_wineBehind_56 rfl rfl ?_
      refine mm_iret dX0_wineBehind_57 rfl ?_
      exact ⟨rfl, _, rfl, by rw [← hv]; rfl, rfl⟩
    | succ n ih =>
      intro x i hi hx hv
      have hmul : x * r ≤ 2250 * 50 := Nat.mul_le_mul hx hr5
      have hl := wb_loss_le (w := x) hr5
      refine mm_iload dX0_wineBehind_5 rfl ?_
      refine mm_iload_n dX0_wineBehind_7 rfl rfl ?_
      refine mm_icmp_ge 56 dX0_wineBehind_8 (by decide) (fun c_8 => absurd c_8 (nI_ge (by omega) (by omega))) (fun c_8 => ?_)
      refine mm_iload_n dX0_wineBehind_11 rfl rfl ?_
      refine mm_aload_n dX0_wineBehind_12 rfl rfl ?_
      refine mm_getI dX0_wineBehind_13 fl_X0_19 rfl (by assumption) ?_
      refine mm_imul dX0_wineBehind_16 ?_
      refine mm_sipush 1000 dX0_wineBehind_17 rfl ?_
      refine mm_idiv dX0_wineBehind_20 (by decide) ?_
      refine mm_tope (y := nI (x * r / 1000)) (by rw [hr, pk_mul]; exact pk_div (d := 1000) (by omega) (by omega) (by omega)) ?_
      refine mm_istore dX0_wineBehind_21 (Nat.le_of_ble_eq_true rfl) ?_
      refine mm_iload dX0_wineBehind_23 rfl ?_
      refine mm_if_ne 31 dX0_wineBehind_25 (by decide) (fun c_25 => ?_) (fun c_25 => ?_)
      · skip
        have hne : x * r / 1000 ≠ 0 := fun e => c_25 (by rw [e]; rfl)
        refine mm_iload_n dX0_wineBehind_31 rfl rfl ?_
        refine mm_iload_n dX0_wineBehind_32 rfl rfl ?_
        refine mm_sipush 1800 dX0_wineBehind_33 rfl ?_
        refine mm_icmp_ge 46 dX0_wineBehind_36 (by decide) (fun c_36 => ?_) (fun c_36 => ?_)
        · skip
          have hlt : ¬ x < 1800 := fun q => absurd c_36 (nI_ge (b := 1800) q (by omega))
          refine mm_iload dX0_wineBehind_46 rfl ?_
          refine mm_isub dX0_wineBehind_48 ?_
          refine mm_tope (y := nI (wb_step r x)) (by unfold wb_step; first | (rw [if_pos hlt, show (2 : Int32) = nI 2 from rfl, pk_mul]; exact pk_sub (by omega)) | (rw [if_neg hlt]; exact pk_sub (by omega))) ?_
          refine mm_istore_n dX0_wineBehind_49 rfl (Nat.le_of_ble_eq_true rfl) ?_
          refine mm_iinc 1 dX0_wineBehind_50 rfl rfl (Nat.le_of_ble_eq_true rfl) ?_
          rw [nI_1]
          refine mm_goto 5 dX0_wineBehind_53 (by decide) ?_
          exact mm_G.at (ih (wb_step r x) (i + 1) (by omega) (Nat.le_trans wb_step_le hx) hv) (mm_s1 rfl (mm_s1 rfl (mm_s1 rfl (mm_s1 rfl mm_s0))))
        · skip
          have hlt : x < 1800 := Nat.not_le.mp fun q => c_36 (nI_le (a := 1800) q (by omega))
          refine mm_iconst 2 dX0_wineBehind_39 rfl ?_
          refine mm_iload dX0_wineBehind_40 rfl ?_
          refine mm_imul dX0_wineBehind_42 ?_
          refine mm_goto 48 dX0_wineBehind_43 (by decide) ?_
          refine mm_isub dX0_wineBehind_48 ?_
          refine mm_tope (y := nI (wb_step r x)) (by unfold wb_step; first | (rw [if_pos hlt, show (2 : Int32) = nI 2 from rfl, pk_mul]; exact pk_sub (by omega)) | (rw [if_neg hlt]; exact pk_sub (by omega))) ?_
          refine mm_istore_n dX0_wineBehind_49 rfl (Nat.le_of_ble_eq_true rfl) ?_
          refine mm_iinc 1 dX0_wineBehind_50 rfl rfl (Nat.le_of_ble_eq_true rfl) ?_
          rw [nI_1]
          refine mm_goto 5 dX0_wineBehind_53 (by decide) ?_
          exact mm_G.at (ih (wb_step r x) (i + 1) (by omega) (Nat.le_trans wb_step_le hx) hv) (mm_s1 rfl (mm_s1 rfl (mm_s1 rfl (mm_s1 rfl mm_s0))))
      · skip
        have h0 : x * r / 1000 = 0 := by
          rcases Nat.eq_zero_or_pos (x * r / 1000) with e | e
          · exact e
          · exact absurd c_25 (nI_ne0 e (by omega))
        refine mm_goto 56 dX0_wineBehind_28 (by decide) ?_
        refine mm_iload_n dX0_wineBehind_56 rfl rfl ?_
        refine mm_iret dX0_wineBehind_57 rfl ?_
        exact ⟨rfl, _, rfl, by rw [← hv, wb_it_0 h0], rfl⟩
  refine mm_iload_n dX0_wineBehind_0 rfl rfl ?_
  refine mm_istore_n dX0_wineBehind_1 rfl (Nat.le_of_ble_eq_true rfl) ?_
  refine mm_iconst 0 dX0_wineBehind_2 rfl ?_
  refine mm_istore dX0_wineBehind_3 (Nat.le_of_ble_eq_true rfl) ?_
  exact mm_G.at (loop m w 0 (by omega) hw rfl) (mm_s1 rfl (mm_s1 rfl (mm_s1 rfl (mm_s1 rfl mm_s0))))
set_option maxRecDepth 100000 in
set_option maxHeartbeats 4000000 in
theorem c_casesBehind {S : mm_S} {I : mm_I} {a n r m : Nat} {w : Nat → Nat} (hB : mm_bar S a) (hv : wv_at I a n r w) (ho : wv_ok n r w) (hm : m < 1000) : mm_ci mX0_casesBehind [.ref a, .int (nI m)] S I (fun q J => q = nI (ws_sum (fun k => wb_it r m (w k)) n / 90) ∧ J = I) := by
  obtain ⟨hk, hp, hkw⟩ := hB
  obtain ⟨h1, h2, h3⟩ := hv
  obtain ⟨o1, o2, o3, o4, o5⟩ := ho
  have hb : ∀ i, i ≤ n → ws_sum (fun k => wb_it r m (w k)) i ≤ 27000 := fun i hi => Nat.le_trans (ws_sum_le (b := 2250) i (fun k _ => Nat.le_trans (wb_it_le _ _) (o3 k))) (by omega)
  refine mm_ci.of okX0_casesBehind rfl (Nat.le_of_ble_eq_true rfl) (lv := [(0, .ref a), (1, .int (nI m))]) rfl ?_
  have loop : ∀ (t i : Nat), i + t = n → mm_Gi mX0_casesBehind (fun q J => q = nI (ws_sum (fun k => wb_it r m (w k)) n / 90) ∧ J = I) 4 [(3, .int (nI i)), (2, .int (nI (ws_sum (fun k => wb_it r m (w k)) i))), (0, .ref a), (1, .int (nI m))] [] S S I := by
    intro t
    induction t with
    | zero =>
      intro i hi
      refine mm_iload_n dX0_casesBehind_4 rfl rfl ?_
      refine mm_aload_n dX0_casesBehind_5 rfl rfl ?_
      refine mm_getI dX0_casesBehind_6 fl_X0_15 rfl (by assumption) ?_
      refine mm_tope (y := nI n) h1 ?_
      refine mm_icmp_ge 41 dX0_casesBehind_9 (by decide) (fun c_9 => ?_) (fun c_9 => absurd (nI_le (by omega) (by omega)) c_9)
      refine mm_iload_n dX0_casesBehind_41 rfl rfl ?_
      refine mm_bipush 90 dX0_casesBehind_42 rfl ?_
      refine mm_idiv dX0_casesBehind_44 (by decide) ?_
      refine mm_iret dX0_casesBehind_45 rfl ?_
      exact ⟨rfl, _, rfl, by rw [show i = n by omega]; exact pk_div (d := 90) (by have := hb n (Nat.le_refl n); omega) (by omega) (by omega), rfl⟩
    | succ t ih =>
      intro i hi
      refine mm_iload_n dX0_casesBehind_4 rfl rfl ?_
      refine mm_aload_n dX0_casesBehind_5 rfl rfl ?_
      refine mm_getI dX0_casesBehind_6 fl_X0_15 rfl (by assumption) ?_
      refine mm_tope (y := nI n) h1 ?_
      refine mm_icmp_ge 41 dX0_casesBehind_9 (by decide) (fun c_9 => absurd c_9 (nI_ge (by omega) (by omega))) (fun c_9 => ?_)
      refine mm_iload_n dX0_casesBehind_12 rfl rfl ?_
      refine mm_aload_n dX0_casesBehind_13 rfl rfl ?_
      refine mm_getR dX0_casesBehind_14 fl_X0_9 rfl (by assumption) (by assumption) ?_
      refine mm_alen (t := 0) dX0_casesBehind_17 (by assumption) (by decide) 12 rfl ?_
      refine mm_icmp_ge 41 dX0_casesBehind_18 (by decide) (fun c_18 => absurd c_18 (nI_ge (b := 12) (by omega) (by omega))) (fun c_18 => ?_)
      refine mm_iload_n dX0_casesBehind_21 rfl rfl ?_
      refine mm_aload_n dX0_casesBehind_22 rfl rfl ?_
      refine mm_aload_n dX0_casesBehind_23 rfl rfl ?_
      refine mm_getR dX0_casesBehind_24 fl_X0_9 rfl (by assumption) (by assumption) ?_
      refine mm_iload_n dX0_casesBehind_27 rfl rfl ?_
      refine mm_iald dX0_casesBehind_28 (by assumption) (vp_in_nI (by omega) (by omega)) ?_
      rw [nI_clamp (by omega), h3 i (by omega)]
      refine mm_iload_n dX0_casesBehind_29 rfl rfl ?_
      refine mm_Vi (N := mX0_wineBehind) (ci := 0) (as := [_, _]) dX0_casesBehind_30 lk_X0_26 okX0_wineBehind (by decide) rfl (by decide) rfl (by assumption) rfl (by first | decide | (simp [Value.category])) (c_wineBehind hk h2 o2 (o3 i) hm) (fun r1 J1 hq => ?_)
      obtain ⟨rfl, rfl⟩ := hq
      refine mm_iadd dX0_casesBehind_33 ?_
      refine mm_tope (y := nI (ws_sum (fun k => wb_it r m (w k)) (i + 1))) (nI_add _ _) ?_
      refine mm_istore_n dX0_casesBehind_34 rfl (Nat.le_of_ble_eq_true rfl) ?_
      refine mm_iinc 1 dX0_casesBehind_35 rfl rfl (Nat.le_of_ble_eq_true rfl) ?_
      rw [nI_1]
      refine mm_goto 4 dX0_casesBehind_38 (by decide) ?_
      exact mm_G.at (ih (i + 1) (by omega)) (mm_s1 rfl (mm_s1 rfl (mm_s1 rfl (mm_s1 rfl mm_s0))))
  refine mm_iconst 0 dX0_casesBehind_0 rfl ?_
  refine mm_istore_n dX0_casesBehind_1 rfl (Nat.le_of_ble_eq_true rfl) ?_
  refine mm_iconst 0 dX0_casesBehind_2 rfl ?_
  refine mm_istore_n dX0_casesBehind_3 rfl (Nat.le_of_ble_eq_true rfl) ?_
  exact mm_G.at (loop n 0 (by omega)) (mm_s1 rfl (mm_s1 rfl (mm_s1 rfl (mm_s1 rfl mm_s0))))
set_option maxRecDepth 100000 in
set_option maxHeartbeats 4000000 in
theorem c_lose {S : mm_S} {I : mm_I} {a n r m : Nat} {w : Nat → Nat} (hB : mm_bar S a) (hv : wv_at I a n r w) (ho : wv_ok n r w) (hm : m < 1000) : mm_ci mX0_lose [.ref a, .int (nI m)] S I (fun q J => q = nI (ws_sum (fun k => w k - wb_it r m (w k)) n) ∧ J = mm_row I (a + 1) n (fun k => nI (wb_it r m (w k)))) := by
  obtain ⟨hk, hp, hkw⟩ := hB
  obtain ⟨h1, h2, h3⟩ := hv
  obtain ⟨o1, o2, o3, o4, o5⟩ := ho
  have hn1 : a ≠ a + 1 := by omega
  refine mm_ci.of okX0_lose rfl (Nat.le_of_ble_eq_true rfl) (lv := [(0, .ref a), (1, .int (nI m))]) rfl ?_
  have loop : ∀ (t i : Nat), i + t = n → mm_Gi mX0_lose (fun q J => q = nI (ws_sum (fun k => w k - wb_it r m (w k)) n) ∧ J = mm_row I (a + 1) n (fun k => nI (wb_it r m (w k)))) 4 [(3, .int (nI i)), (2, .int (nI (ws_sum (fun k => w k - wb_it r m (w k)) i))), (0, .ref a), (1, .int (nI m))] [] S S (mm_row I (a + 1) i (fun k => nI (wb_it r m (w k)))) := by
    intro t
    induction t with
    | zero =>
      intro i hi
      have g1 : mm_row I (a + 1) i (fun k => nI (wb_it r m (w k))) a 1 = nI n := by rw [mm_row_ne hn1]; exact h1
      refine mm_iload_n dX0_lose_4 rfl rfl ?_
      refine mm_aload_n dX0_lose_5 rfl rfl ?_
      refine mm_getI dX0_lose_6 fl_X0_15 rfl (by assumption) ?_
      refine mm_tope (y := nI n) g1 ?_
      refine mm_icmp_ge 60 dX0_lose_9 (by decide) (fun c_9 => ?_) (fun c_9 => absurd (nI_le (by omega) (by omega)) c_9)
      refine mm_iload_n dX0_lose_60 rfl rfl ?_
      refine mm_iret dX0_lose_61 rfl ?_
      exact ⟨rfl, _, rfl, by rw [show i = n by omega], by rw [show i = n by omega]⟩
    | succ t ih =>
      intro i hi
      have g1 : mm_row I (a + 1) i (fun k => nI (wb_it r m (w k))) a 1 = nI n := by rw [mm_row_ne hn1]; exact h1
      have g2 : mm_row I (a + 1) i (fun k => nI (wb_it r m (w k))) a 2 = nI r := by rw [mm_row_ne hn1]; exact h2
      have g3 : mm_row I (a + 1) i (fun k => nI (wb_it r m (w k))) (a + 1) i = nI (w i) := by rw [mm_row_out (Nat.le_refl _)]; exact h3 i (by omega)
      have hin : vp_in (nI i) 12 := vp_in_nI (by omega) (by omega)
      have hle := wb_it_le (r := r) m (w i)
      refine mm_iload_n dX0_lose_4 rfl rfl ?_
      refine mm_aload_n dX0_lose_5 rfl rfl ?_
      refine mm_getI dX0_lose_6 fl_X0_15 rfl (by assumption) ?_
      refine mm_tope (y := nI n) g1 ?_
      refine mm_icmp_ge 60 dX0_lose_9 (by decide) (fun c_9 => absurd c_9 (nI_ge (by omega) (by omega))) (fun c_9 => ?_)
      refine mm_iload_n dX0_lose_12 rfl rfl ?_
      refine mm_aload_n dX0_lose_13 rfl rfl ?_
      refine mm_getR dX0_lose_14 fl_X0_9 rfl (by assumption) (by assumption) ?_
      refine mm_alen (t := 0) dX0_lose_17 (by assumption) (by decide) 12 rfl ?_
      refine mm_icmp_ge 60 dX0_lose_18 (by decide) (fun c_18 => absurd c_18 (nI_ge (b := 12) (by omega) (by omega))) (fun c_18 => ?_)
      refine mm_aload_n dX0_lose_21 rfl rfl ?_
      refine mm_aload_n dX0_lose_22 rfl rfl ?_
      refine mm_getR dX0_lose_23 fl_X0_9 rfl (by assumption) (by assumption) ?_
      refine mm_iload_n dX0_lose_26 rfl rfl ?_
      refine mm_iald dX0_lose_27 (by assumption) (by assumption) ?_
      rw [nI_clamp (by omega), g3]
      refine mm_iload_n dX0_lose_28 rfl rfl ?_
      refine mm_Vi (N := mX0_wineBehind) (ci := 0) (as := [_, _]) dX0_lose_29 lk_X0_26 okX0_wineBehind (by decide) rfl (by decide) rfl (by assumption) rfl (by decide) (c_wineBehind hk g2 o2 (o3 i) hm) (fun r1 J1 hq => ?_)
      obtain ⟨rfl, rfl⟩ := hq
      refine mm_istore dX0_lose_32 (Nat.le_of_ble_eq_true rfl) ?_
      refine mm_iload_n dX0_lose_34 rfl rfl ?_
      refine mm_aload_n dX0_lose_35 rfl rfl ?_
      refine mm_getR dX0_lose_36 fl_X0_9 rfl (by assumption) (by assumption) ?_
      refine mm_iload_n dX0_lose_39 rfl rfl ?_
      refine mm_iald dX0_lose_40 (by assumption) (by assumption) ?_
      rw [nI_clamp (by omega), g3]
      refine mm_iload dX0_lose_41 rfl ?_
      refine mm_isub dX0_lose_43 ?_
      refine mm_tope (y := nI (w i - wb_it r m (w i))) (pk_sub hle) ?_
      refine mm_iadd dX0_lose_44 ?_
      refine mm_tope (y := nI (ws_sum (fun k => w k - wb_it r m (w k)) (i + 1))) (nI_add _ _) ?_
      refine mm_istore_n dX0_lose_45 rfl (Nat.le_of_ble_eq_true rfl) ?_
      refine mm_aload_n dX0_lose_46 rfl rfl ?_
      refine mm_getR dX0_lose_47 fl_X0_9 rfl (by assumption) (by assumption) ?_
      refine mm_iload_n dX0_lose_50 rfl rfl ?_
      refine mm_iload dX0_lose_51 rfl ?_
      refine mm_iast dX0_lose_53 (by assumption) (by assumption) ?_
      rw [nI_clamp (by omega)]
      refine mm_G.i (mm_row_S (f := (fun k => nI (wb_it r m (w k))))) ?_
      refine mm_iinc 1 dX0_lose_54 rfl rfl (Nat.le_of_ble_eq_true rfl) ?_
      rw [nI_1]
      refine mm_goto 4 dX0_lose_57 (by decide) ?_
      exact mm_G.at (ih (i + 1) (by omega)) (mm_s1 rfl (mm_s1 rfl (mm_s1 rfl (mm_s1 rfl mm_s0))))
  refine mm_iconst 0 dX0_lose_0 rfl ?_
  refine mm_istore_n dX0_lose_1 rfl (Nat.le_of_ble_eq_true rfl) ?_
  refine mm_iconst 0 dX0_lose_2 rfl ?_
  refine mm_istore_n dX0_lose_3 rfl (Nat.le_of_ble_eq_true rfl) ?_
  refine mm_G.i (I' := mm_row I (a + 1) 0 (fun k => nI (wb_it r m (w k)))) mm_row_0.symm ?_
  exact mm_G.at (loop n 0 (by omega)) (mm_s1 rfl (mm_s1 rfl (mm_s1 rfl (mm_s1 rfl mm_s0))))
set_option maxRecDepth 100000 in
set_option maxHeartbeats 4000000 in
theorem c_barrelForTasting {S : mm_S} {I : mm_I} {a n r : Nat} {w : Nat → Nat} (hB : mm_bar S a) (hv : wv_at I a n r w) (ho : wv_ok n r w) : mm_ci mX0_barrelForTasting [.ref a] S I (fun q J => q = (match w_find (fun k => decide (10 ≤ w k)) 0 n with | some k => nI k | none => -1) ∧ J = I) := by
  obtain ⟨hk, hp, hkw⟩ := hB
  obtain ⟨h1, h2, h3⟩ := hv
  obtain ⟨o1, o2, o3, o4, o5⟩ := ho
  refine mm_ci.of okX0_barrelForTasting rfl (Nat.le_of_ble_eq_true rfl) (lv := [(0, .ref a)]) rfl ?_
  have loop : ∀ (t i : Nat), i + t = n → w_find (fun k => decide (10 ≤ w k)) i t = w_find (fun k => decide (10 ≤ w k)) 0 n → mm_Gi mX0_barrelForTasting (fun q J => q = (match w_find (fun k => decide (10 ≤ w k)) 0 n with | some k => nI k | none => -1) ∧ J = I) 2 [(1, .int (nI i)), (0, .ref a)] [] S S I := by
    intro t
    induction t with
    | zero =>
      intro i hi hf
      refine mm_iload_n dX0_barrelForTasting_2 rfl rfl ?_
      refine mm_aload_n dX0_barrelForTasting_3 rfl rfl ?_
      refine mm_getI dX0_barrelForTasting_4 fl_X0_15 rfl (by assumption) ?_
      refine mm_tope (y := nI n) h1 ?_
      refine mm_icmp_ge 38 dX0_barrelForTasting_7 (by decide) (fun c_7 => ?_) (fun c_7 => absurd (nI_le (by omega) (by omega)) c_7)
      refine mm_iconst (-1) dX0_barrelForTasting_38 rfl ?_
      refine mm_iret dX0_barrelForTasting_39 rfl ?_
      exact ⟨rfl, _, rfl, by rw [← hf]; rfl, rfl⟩
    | succ t ih =>
      intro i hi hf
      have a3 := o3 i
      refine mm_iload_n dX0_barrelForTasting_2 rfl rfl ?_
      refine mm_aload_n dX0_barrelForTasting_3 rfl rfl ?_
      refine mm_getI dX0_barrelForTasting_4 fl_X0_15 rfl (by assumption) ?_
      refine mm_tope (y := nI n) h1 ?_
      refine mm_icmp_ge 38 dX0_barrelForTasting_7 (by decide) (fun c_7 => absurd c_7 (nI_ge (by omega) (by omega))) (fun c_7 => ?_)
      refine mm_iload_n dX0_barrelForTasting_10 rfl rfl ?_
      refine mm_aload_n dX0_barrelForTasting_11 rfl rfl ?_
      refine mm_getR dX0_barrelForTasting_12 fl_X0_9 rfl (by assumption) (by assumption) ?_
      refine mm_alen (t := 0) dX0_barrelForTasting_15 (by assumption) (by decide) 12 rfl ?_
      refine mm_icmp_ge 38 dX0_barrelForTasting_16 (by decide) (fun c_16 => absurd c_16 (nI_ge (b := 12) (by omega) (by omega))) (fun c_16 => ?_)
      refine mm_aload_n dX0_barrelForTasting_19 rfl rfl ?_
      refine mm_getR dX0_barrelForTasting_20 fl_X0_9 rfl (by assumption) (by assumption) ?_
      refine mm_iload_n dX0_barrelForTasting_23 rfl rfl ?_
      refine mm_iald dX0_barrelForTasting_24 (by assumption) (vp_in_nI (by omega) (by omega)) ?_
      rw [nI_clamp (by omega), h3 i (by omega)]
      refine mm_bipush 10 dX0_barrelForTasting_25 rfl ?_
      refine mm_icmp_lt 32 dX0_barrelForTasting_27 (by decide) (fun c_27 => ?_) (fun c_27 => ?_)
      · skip
        have hlt : w i < 10 := Nat.not_le.mp fun q => nI_nlt (a := w i) (b := 10) q (by omega) c_27
        have hf2 : w_find (fun k => decide (10 ≤ w k)) (i + 1) t = w_find (fun k => decide (10 ≤ w k)) 0 n := by rw [← hf]; show _ = if _ then _ else _; rw [if_neg (by simp; omega)]
        refine mm_iinc 1 dX0_barrelForTasting_32 rfl rfl (Nat.le_of_ble_eq_true rfl) ?_
        rw [nI_1]
        refine mm_goto 2 dX0_barrelForTasting_35 (by decide) ?_
        exact mm_G.at (ih (i + 1) (by omega) hf2) (mm_s1 rfl (mm_s1 rfl mm_s0))
      · skip
        have hge : 10 ≤ w i := Nat.not_lt.mp fun q => c_27 (nI_lt (b := 10) q (by omega))
        have hf2 : w_find (fun k => decide (10 ≤ w k)) 0 n = some i := by rw [← hf]; show (if _ then _ else _) = _; rw [if_pos (by simp; omega)]
        refine mm_iload_n dX0_barrelForTasting_30 rfl rfl ?_
        refine mm_iret dX0_barrelForTasting_31 rfl ?_
        exact ⟨rfl, _, rfl, by rw [hf2], rfl⟩
  refine mm_iconst 0 dX0_barrelForTasting_0 rfl ?_
  refine mm_istore_n dX0_barrelForTasting_1 rfl (Nat.le_of_ble_eq_true rfl) ?_
  exact mm_G.at (loop n 0 (by omega) rfl) (mm_s1 rfl (mm_s1 rfl mm_s0))
set_option maxRecDepth 100000 in
set_option maxHeartbeats 4000000 in
theorem c_leaveOut {S : mm_S} {I : mm_I} {a n r b : Nat} {v : Nat → Nat} (hB : mm_bar S a) (hv : wv_at I a n r v) (hn : n ≤ 12) (hb : b < n) (hz : ∀ k, n ≤ k → v k = 0) : mm_cv mX0_leaveOut [.ref a, .int (nI b)] S I (fun J => J = mm_wr (mm_row I (a + 1) 12 (fun k => nI (w_del v b k))) a 1 (nI (n - 1))) := by
  obtain ⟨hk, hp, hkw⟩ := hB
  obtain ⟨h1, h2, h3⟩ := hv
  have hn1 : a ≠ a + 1 := by omega
  have e0 : mm_row I (a + 1) b (fun k => nI (w_del v b k)) = I := by
    funext c j
    unfold mm_row
    split
    · rename_i h
      rw [h.1, h3 j (by omega)]
      show nI (w_del v b j) = _
      unfold w_del
      rw [if_pos h.2]
    · rfl
  have el : ∀ i, b ≤ i → i < 11 → mm_row I (a + 1) i (fun k => nI (w_del v b k)) (a + 1) (i + 1) = nI (w_del v b i) := by
    intro i h4 h5
    rw [mm_row_out (by omega), h3 (i + 1) (by omega)]
    unfold w_del
    rw [if_neg (by omega)]
  have e12 : nI (w_del v b 11) = 0 := by
    unfold w_del
    rw [if_neg (by omega), hz 12 hn]
    rfl
  refine mm_cv.of okX0_leaveOut rfl (Nat.le_of_ble_eq_true rfl) (lv := [(0, .ref a), (1, .int (nI b))]) rfl ?_
  have loop : ∀ (t i : Nat), i + t = 11 → b ≤ i → mm_Gv mX0_leaveOut (fun J => J = mm_wr (mm_row I (a + 1) 12 (fun k => nI (w_del v b k))) a 1 (nI (n - 1))) 2 [(2, .int (nI i)), (0, .ref a)] [] S S (mm_row I (a + 1) i (fun k => nI (w_del v b k))) := by
    intro t
    induction t with
    | zero =>
      intro i hi hbi
      have hi11 : i = 11 := by omega
      subst hi11
      refine mm_iload_n dX0_leaveOut_2 rfl rfl ?_
      refine mm_if_lt 37 dX0_leaveOut_3 (by decide) (fun c_3 => absurd c_3 (nI_pos (by omega))) (fun c_3 => ?_)
      refine mm_iload_n dX0_leaveOut_6 rfl rfl ?_
      refine mm_iconst 1 dX0_leaveOut_7 rfl ?_
      refine mm_iadd dX0_leaveOut_8 ?_
      refine mm_tope (y := nI 12) (nI_1 11) ?_
      refine mm_aload_n dX0_leaveOut_9 rfl rfl ?_
      refine mm_getR dX0_leaveOut_10 fl_X0_9 rfl (by assumption) (by assumption) ?_
      refine mm_alen (t := 0) dX0_leaveOut_13 (by assumption) (by decide) 12 rfl ?_
      refine mm_icmp_ge 37 dX0_leaveOut_14 (by decide) (fun c_14 => ?_) (fun c_14 => absurd (nI_le (a := 12) (by omega) (by omega)) c_14)
      refine mm_aload_n dX0_leaveOut_37 rfl rfl ?_
      refine mm_getR dX0_leaveOut_38 fl_X0_9 rfl (by assumption) (by assumption) ?_
      refine mm_aload_n dX0_leaveOut_41 rfl rfl ?_
      refine mm_getR dX0_leaveOut_42 fl_X0_9 rfl (by assumption) (by assumption) ?_
      refine mm_alen (t := 0) dX0_leaveOut_45 (by assumption) (by decide) 12 rfl ?_
      refine mm_iconst 1 dX0_leaveOut_46 rfl ?_
      refine mm_isub dX0_leaveOut_47 ?_
      refine mm_tope (y := nI 11) rfl ?_
      refine mm_iconst 0 dX0_leaveOut_48 rfl ?_
      refine mm_iast dX0_leaveOut_49 (by assumption) (vp_in_nI (by omega) (by omega)) ?_
      rw [nI_clamp (by omega), ← e12]
      refine mm_G.i (mm_row_S (f := (fun k => nI (w_del v b k)))) ?_
      refine mm_aload_n dX0_leaveOut_50 rfl rfl ?_
      refine mm_dup dX0_leaveOut_51 rfl ?_
      refine mm_getI dX0_leaveOut_52 fl_X0_15 rfl (by assumption) ?_
      refine mm_tope (y := nI n) (by rw [mm_row_ne hn1]; exact h1) ?_
      refine mm_iconst 1 dX0_leaveOut_55 rfl ?_
      refine mm_isub dX0_leaveOut_56 ?_
      refine mm_tope (y := nI (n - 1)) (nI_m1 (by omega)) ?_
      refine mm_putI dX0_leaveOut_57 fl_X0_15 rfl rfl (by assumption) ?_
      refine mm_vret dX0_leaveOut_60 rfl ?_
      exact ⟨rfl, rfl, rfl⟩
    | succ t ih =>
      intro i hi hbi
      refine mm_iload_n dX0_leaveOut_2 rfl rfl ?_
      refine mm_if_lt 37 dX0_leaveOut_3 (by decide) (fun c_3 => absurd c_3 (nI_pos (by omega))) (fun c_3 => ?_)
      refine mm_iload_n dX0_leaveOut_6 rfl rfl ?_
      refine mm_iconst 1 dX0_leaveOut_7 rfl ?_
      refine mm_iadd dX0_leaveOut_8 ?_
      refine mm_tope (y := nI (i + 1)) (nI_1 i) ?_
      refine mm_aload_n dX0_leaveOut_9 rfl rfl ?_
      refine mm_getR dX0_leaveOut_10 fl_X0_9 rfl (by assumption) (by assumption) ?_
      refine mm_alen (t := 0) dX0_leaveOut_13 (by assumption) (by decide) 12 rfl ?_
      refine mm_icmp_ge 37 dX0_leaveOut_14 (by decide) (fun c_14 => absurd c_14 (nI_ge (b := 12) (by omega) (by omega))) (fun c_14 => ?_)
      refine mm_aload_n dX0_leaveOut_17 rfl rfl ?_
      refine mm_getR dX0_leaveOut_18 fl_X0_9 rfl (by assumption) (by assumption) ?_
      refine mm_iload_n dX0_leaveOut_21 rfl rfl ?_
      refine mm_aload_n dX0_leaveOut_22 rfl rfl ?_
      refine mm_getR dX0_leaveOut_23 fl_X0_9 rfl (by assumption) (by assumption) ?_
      refine mm_iload_n dX0_leaveOut_26 rfl rfl ?_
      refine mm_iconst 1 dX0_leaveOut_27 rfl ?_
      refine mm_iadd dX0_leaveOut_28 ?_
      refine mm_tope (y := nI (i + 1)) (nI_1 i) ?_
      refine mm_iald dX0_leaveOut_29 (by assumption) (vp_in_nI (by omega) (by omega)) ?_
      rw [nI_clamp (by omega), el i hbi (by omega)]
      refine mm_iast dX0_leaveOut_30 (by assumption) (vp_in_nI (by omega) (by omega)) ?_
      rw [nI_clamp (by omega)]
      refine mm_G.i (mm_row_S (f := (fun k => nI (w_del v b k)))) ?_
      refine mm_iinc 1 dX0_leaveOut_31 rfl rfl (Nat.le_of_ble_eq_true rfl) ?_
      rw [nI_1]
      refine mm_goto 2 dX0_leaveOut_34 (by decide) ?_
      exact mm_G.at (ih (i + 1) (by omega) (by omega)) (mm_s1 rfl (mm_s1 rfl mm_s0))
  refine mm_iload_n dX0_leaveOut_0 rfl rfl ?_
  refine mm_istore_n dX0_leaveOut_1 rfl (Nat.le_of_ble_eq_true rfl) ?_
  refine mm_G.i e0.symm ?_
  exact mm_G.at (loop (11 - b) b (by omega) (Nat.le_refl _)) (mm_s1 rfl (mm_s1 rfl mm_s0))
set_option maxRecDepth 100000 in
set_option maxHeartbeats 4000000 in
theorem c_takeSip {S : mm_S} {I : mm_I} {a n r b : Nat} {w : Nat → Nat} (hB : mm_bar S a) (hv : wv_at I a n r w) (ho : wv_ok n r w) (hb : b < n) (hw : 10 ≤ w b) : mm_cv mX0_takeSip [.ref a, .int (nI b)] S I (fun J => wv_at J a (w_sipN n w b) r (w_sip w b) ∧ ∀ c, c ≠ a → c ≠ a + 1 → J c = I c) := by
  have hB0 := hB
  obtain ⟨hk, hp, hkw⟩ := hB
  obtain ⟨h1, h2, h3⟩ := hv
  obtain ⟨o1, o2, o3, o4, o5⟩ := ho
  have hn1 : a ≠ a + 1 := by omega
  have b3 := o3 b
  refine mm_cv.of okX0_takeSip rfl (Nat.le_of_ble_eq_true rfl) (lv := [(0, .ref a), (1, .int (nI b))]) rfl ?_
  refine mm_iload_n dX0_takeSip_0 rfl rfl ?_
  refine mm_if_lt 21 dX0_takeSip_1 (by decide) (fun c_1 => absurd c_1 (nI_pos (by omega))) (fun c_1 => ?_)
  refine mm_iload_n dX0_takeSip_4 rfl rfl ?_
  refine mm_aload_n dX0_takeSip_5 rfl rfl ?_
  refine mm_getI dX0_takeSip_6 fl_X0_15 rfl (by assumption) ?_
  refine mm_tope (y := nI n) h1 ?_
  refine mm_icmp_ge 21 dX0_takeSip_9 (by decide) (fun c_9 => absurd c_9 (nI_ge (by omega) (by omega))) (fun c_9 => ?_)
  refine mm_iload_n dX0_takeSip_12 rfl rfl ?_
  refine mm_aload_n dX0_takeSip_13 rfl rfl ?_
  refine mm_getR dX0_takeSip_14 fl_X0_9 rfl (by assumption) (by assumption) ?_
  refine mm_alen (t := 0) dX0_takeSip_17 (by assumption) (by decide) 12 rfl ?_
  refine mm_icmp_lt 22 dX0_takeSip_18 (by decide) (fun c_18 => ?_) (fun c_18 => absurd (nI_lt (b := 12) (by omega) (by omega)) c_18)
  refine mm_aload_n dX0_takeSip_22 rfl rfl ?_
  refine mm_getR dX0_takeSip_23 fl_X0_9 rfl (by assumption) (by assumption) ?_
  refine mm_iload_n dX0_takeSip_26 rfl rfl ?_
  refine mm_dup2 dX0_takeSip_27 rfl rfl ?_
  refine mm_iald dX0_takeSip_28 (by assumption) (vp_in_nI (by omega) (by omega)) ?_
  rw [nI_clamp (by omega), h3 b (by omega)]
  refine mm_bipush 10 dX0_takeSip_29 rfl ?_
  refine mm_isub dX0_takeSip_31 ?_
  refine mm_tope (y := nI (w b - 10)) (pk_sub (b := 10) hw) ?_
  refine mm_iast dX0_takeSip_32 (by assumption) (vp_in_nI (by omega) (by omega)) ?_
  rw [nI_clamp (by omega)]
  refine mm_G.gen (P := fun J => (∀ k, k < 12 → J (a + 1) k = nI (if k = b then w b - 10 else w k)) ∧ ∀ c, c ≠ a + 1 → J c = I c) ⟨fun k hk => by by_cases e : k = b; (subst e; rw [mm_wr_s, if_pos rfl]); (rw [mm_wr_k e, if_neg e]; exact h3 k hk), fun c hc => mm_wr_row hc⟩ (fun J1 hJ => ?_)
  obtain ⟨j1, j2⟩ := hJ
  refine mm_aload_n dX0_takeSip_33 rfl rfl ?_
  refine mm_getR dX0_takeSip_34 fl_X0_9 rfl (by assumption) (by assumption) ?_
  refine mm_iload_n dX0_takeSip_37 rfl rfl ?_
  refine mm_iald dX0_takeSip_38 (by assumption) (vp_in_nI (by omega) (by omega)) ?_
  rw [nI_clamp (by omega), j1 b (by omega), if_pos rfl]
  refine mm_if_ne 47 dX0_takeSip_39 (by decide) (fun c_39 => ?_) (fun c_39 => ?_)
  · skip
    have hne : ¬ w b = 10 := fun e => c_39 (by rw [e]; rfl)
    refine mm_vret dX0_takeSip_47 rfl ?_
    first
      | exact ⟨rfl, rfl, ⟨by unfold w_sipN; rw [if_neg hne, j2 a hn1]; exact h1, by rw [j2 a hn1]; exact h2, fun k hk => by rw [j1 k hk]; unfold w_sip; rw [if_neg hne]; by_cases e : k = b; (subst e; simp); (simp [e])⟩, fun c h4 h5 => j2 c h5⟩
      | exact ⟨rfl, rfl, ⟨by unfold w_sipN; rw [if_pos he, mm_wr_s], by rw [mm_wr_k (by decide), mm_row_ne hn1, j2 a hn1]; exact h2, fun k hk => by rw [mm_wr_a (by omega), mm_row_in hk, hd]; unfold w_sip; rw [if_pos he]⟩, fun c h4 h5 => by rw [mm_wr_row h4, mm_row_ne h5]; exact j2 c h5⟩
  · skip
    have he : w b = 10 := by
      rcases Nat.eq_zero_or_pos (w b - 10) with e | e
      · omega
      · exact absurd c_39 (nI_ne0 e (by omega))
    refine mm_aload_n dX0_takeSip_42 rfl rfl ?_
    refine mm_iload_n dX0_takeSip_43 rfl rfl ?_
    refine mm_Vv (N := mX0_leaveOut) (ci := 0) (as := [_]) dX0_takeSip_44 lk_X0_30 okX0_leaveOut (by decide) rfl (by decide) rfl (by assumption) rfl (by decide) (c_leaveOut (v := fun k => if k = b then w b - 10 else w k) (n := n) (r := r) hB0 ⟨by rw [j2 a hn1]; exact h1, by rw [j2 a hn1]; exact h2, j1⟩ o1 hb (fun k hk => by show (if k = b then _ else _) = _; rw [if_neg (by omega)]; exact o5 k hk)) (fun J2 hJ2 => ?_)
    subst hJ2
    have hd : w_del (fun k => if k = b then w b - 10 else w k) b = w_del w b := by
      funext k
      unfold w_del
      by_cases h : k < b
      · simp only [if_pos h]; rw [if_neg (by omega)]
      · simp only [if_neg h]; rw [if_neg (by omega)]
    refine mm_vret dX0_takeSip_47 rfl ?_
    first
      | exact ⟨rfl, rfl, ⟨by unfold w_sipN; rw [if_neg hne, j2 a hn1]; exact h1, by rw [j2 a hn1]; exact h2, fun k hk => by rw [j1 k hk]; unfold w_sip; rw [if_neg hne]; by_cases e : k = b; (subst e; simp); (simp [e])⟩, fun c h4 h5 => j2 c h5⟩
      | exact ⟨rfl, rfl, ⟨by unfold w_sipN; rw [if_pos he, mm_wr_s], by rw [mm_wr_k (by decide), mm_row_ne hn1, j2 a hn1]; exact h2, fun k hk => by rw [mm_wr_a (by omega), mm_row_in hk, hd]; unfold w_sip; rw [if_pos he]⟩, fun c h4 h5 => by rw [mm_wr_row h4, mm_row_ne h5]; exact j2 c h5⟩
set_option maxRecDepth 100000 in
set_option maxHeartbeats 4000000 in
theorem c_canBeToppedUp {S : mm_S} {I : mm_I} {a n r : Nat} {w : Nat → Nat} (hB : mm_bar S a) (hv : wv_at I a n r w) (ho : wv_ok n r w) : mm_ci mX0_canBeToppedUp [.ref a] S I (fun q J => q = (if (w_find (fun k => decide (w k < 2250)) 0 (n - 1)).isSome = true then 1 else 0) ∧ J = I) := by
  obtain ⟨hk, hp, hkw⟩ := hB
  obtain ⟨h1, h2, h3⟩ := hv
  obtain ⟨o1, o2, o3, o4, o5⟩ := ho
  refine mm_ci.of okX0_canBeToppedUp rfl (Nat.le_of_ble_eq_true rfl) (lv := [(0, .ref a)]) rfl ?_
  have loop : ∀ (t i : Nat), i + t = n - 1 → w_find (fun k => decide (w k < 2250)) i t = w_find (fun k => decide (w k < 2250)) 0 (n - 1) → mm_Gi mX0_canBeToppedUp (fun q J => q = (if (w_find (fun k => decide (w k < 2250)) 0 (n - 1)).isSome = true then 1 else 0) ∧ J = I) 2 [(1, .int (nI i)), (0, .ref a)] [] S S I := by
    intro t
    induction t with
    | zero =>
      intro i hi hf
      refine mm_iload_n dX0_canBeToppedUp_2 rfl rfl ?_
      refine mm_aload_n dX0_canBeToppedUp_3 rfl rfl ?_
      refine mm_getI dX0_canBeToppedUp_4 fl_X0_15 rfl (by assumption) ?_
      refine mm_tope (y := nI n) h1 ?_
      refine mm_iconst 1 dX0_canBeToppedUp_7 rfl ?_
      refine mm_isub dX0_canBeToppedUp_8 ?_
      refine mm_icmp_ge 41 dX0_canBeToppedUp_9 (by decide) (fun c_9 => ?_) (fun c_9 => absurd ((nI_m1_le (by omega) (by omega)).mpr (by omega)) c_9)
      refine mm_iconst 0 dX0_canBeToppedUp_41 rfl ?_
      refine mm_zret dX0_canBeToppedUp_42 rfl (by first | exact Or.inl rfl | exact Or.inr rfl | assumption) ?_
      exact ⟨rfl, _, rfl, by rw [← hf]; rfl, rfl⟩
    | succ t ih =>
      intro i hi hf
      have a3 := o3 i
      refine mm_iload_n dX0_canBeToppedUp_2 rfl rfl ?_
      refine mm_aload_n dX0_canBeToppedUp_3 rfl rfl ?_
      refine mm_getI dX0_canBeToppedUp_4 fl_X0_15 rfl (by assumption) ?_
      refine mm_tope (y := nI n) h1 ?_
      refine mm_iconst 1 dX0_canBeToppedUp_7 rfl ?_
      refine mm_isub dX0_canBeToppedUp_8 ?_
      refine mm_icmp_ge 41 dX0_canBeToppedUp_9 (by decide) (fun c_9 => absurd c_9 (fun q => absurd ((nI_m1_le (by omega) (by omega)).mp q) (by omega))) (fun c_9 => ?_)
      refine mm_iload_n dX0_canBeToppedUp_12 rfl rfl ?_
      refine mm_aload_n dX0_canBeToppedUp_13 rfl rfl ?_
      refine mm_getR dX0_canBeToppedUp_14 fl_X0_9 rfl (by assumption) (by assumption) ?_
      refine mm_alen (t := 0) dX0_canBeToppedUp_17 (by assumption) (by decide) 12 rfl ?_
      refine mm_icmp_ge 41 dX0_canBeToppedUp_18 (by decide) (fun c_18 => absurd c_18 (nI_ge (b := 12) (by omega) (by omega))) (fun c_18 => ?_)
      refine mm_aload_n dX0_canBeToppedUp_21 rfl rfl ?_
      refine mm_getR dX0_canBeToppedUp_22 fl_X0_9 rfl (by assumption) (by assumption) ?_
      refine mm_iload_n dX0_canBeToppedUp_25 rfl rfl ?_
      refine mm_iald dX0_canBeToppedUp_26 (by assumption) (vp_in_nI (by omega) (by omega)) ?_
      rw [nI_clamp (by omega), h3 i (by omega)]
      refine mm_sipush 2250 dX0_canBeToppedUp_27 rfl ?_
      refine mm_icmp_ge 35 dX0_canBeToppedUp_30 (by decide) (fun c_30 => ?_) (fun c_30 => ?_)
      · skip
        have hge : ¬ w i < 2250 := fun q => absurd c_30 (nI_ge (b := 2250) q (by omega))
        have hf2 : w_find (fun k => decide (w k < 2250)) (i + 1) t = w_find (fun k => decide (w k < 2250)) 0 (n - 1) := by rw [← hf]; show _ = if _ then _ else _; rw [if_neg (by simp; omega)]
        refine mm_iinc 1 dX0_canBeToppedUp_35 rfl rfl (Nat.le_of_ble_eq_true rfl) ?_
        rw [nI_1]
        refine mm_goto 2 dX0_canBeToppedUp_38 (by decide) ?_
        exact mm_G.at (ih (i + 1) (by omega) hf2) (mm_s1 rfl (mm_s1 rfl mm_s0))
      · skip
        have hlt : w i < 2250 := Nat.not_le.mp fun q => c_30 (nI_le (a := 2250) q (by omega))
        have hf2 : w_find (fun k => decide (w k < 2250)) 0 (n - 1) = some i := by rw [← hf]; show (if _ then _ else _) = _; rw [if_pos (by simp; omega)]
        refine mm_iconst 1 dX0_canBeToppedUp_33 rfl ?_
        refine mm_zret dX0_canBeToppedUp_34 rfl (by first | exact Or.inl rfl | exact Or.inr rfl | assumption) ?_
        exact ⟨rfl, _, rfl, by rw [hf2]; rfl, rfl⟩
  refine mm_iconst 0 dX0_canBeToppedUp_0 rfl ?_
  refine mm_istore_n dX0_canBeToppedUp_1 rfl (Nat.le_of_ble_eq_true rfl) ?_
  exact mm_G.at (loop (n - 1) 0 (by omega) rfl) (mm_s1 rfl (mm_s1 rfl mm_s0))
set_option maxRecDepth 100000 in
set_option maxHeartbeats 4000000 in
theorem c_topUp {S : mm_S} {I : mm_I} {a n r : Nat} {w : Nat → Nat} (hB : mm_bar S a) (hv : wv_at I a n r w) (ho : wv_ok n r w) : mm_cv mX0_topUp [.ref a] S I (fun J => wv_at J a (w_top 24 0 n w).1 r (w_top 24 0 n w).2 ∧ wv_ok (w_top 24 0 n w).1 r (w_top 24 0 n w).2 ∧ ∀ c, c ≠ a → c ≠ a + 1 → J c = I c) := by
  have hn1 : a ≠ a + 1 := by omega
  obtain ⟨hk, hp, hkw⟩ := hB
  refine mm_cv.of okX0_topUp rfl (Nat.le_of_ble_eq_true rfl) (lv := [(0, .ref a)]) rfl ?_
  have loop : ∀ (f t x m : Nat) (v : Nat → Nat) (I1 : mm_I), t + f = 24 → wv_at I1 a m r v → wv_ok m r v → x ≤ 12 → w_top f x m v = w_top 24 0 n w → (∀ c, c ≠ a → c ≠ a + 1 → I1 c = I c) → mm_Gv mX0_topUp (fun J => wv_at J a (w_top 24 0 n w).1 r (w_top 24 0 n w).2 ∧ wv_ok (w_top 24 0 n w).1 r (w_top 24 0 n w).2 ∧ ∀ c, c ≠ a → c ≠ a + 1 → J c = I c) 4 [(2, .int (nI t)), (1, .int (nI x)), (0, .ref a)] [] S S I1 := by
    intro f
    induction f with
    | zero =>
      intro t x m v I1 ht hv1 ho1 hx hf hfr
      refine mm_iload_n dX0_topUp_4 rfl rfl ?_
      refine mm_bipush 24 dX0_topUp_5 rfl ?_
      refine mm_icmp_ge 122 dX0_topUp_7 (by decide) (fun c_7 => ?_) (fun c_7 => absurd (nI_le (a := 24) (by omega) (by omega)) c_7)
      refine mm_vret dX0_topUp_122 rfl ?_
      exact ⟨rfl, rfl, by rw [← hf]; exact hv1, by rw [← hf]; exact ho1, hfr⟩
    | succ f ih =>
      intro t x m v I1 ht hv1 ho1 hx hf hfr
      have hoo := ho1
      obtain ⟨h1, h2, h3⟩ := hv1
      obtain ⟨o1, o2, o3, o4, o5⟩ := ho1
      have hin1 : ∀ i, i < 12 → vp_in (nI i) 12 := fun i h => vp_in_nI h (by omega)
      refine mm_iload_n dX0_topUp_4 rfl rfl ?_
      refine mm_bipush 24 dX0_topUp_5 rfl ?_
      refine mm_icmp_ge 122 dX0_topUp_7 (by decide) (fun c_7 => absurd c_7 (nI_ge (b := 24) (by omega) (by omega))) (fun c_7 => ?_)
      refine mm_iload_n dX0_topUp_10 rfl rfl ?_
      refine mm_aload_n dX0_topUp_11 rfl rfl ?_
      refine mm_getI dX0_topUp_12 fl_X0_15 rfl (by assumption) ?_
      refine mm_tope (y := nI m) h1 ?_
      refine mm_iconst 1 dX0_topUp_15 rfl ?_
      refine mm_isub dX0_topUp_16 ?_
      refine mm_icmp_ge 122 dX0_topUp_17 (by decide) (fun c_17 => ?_) (fun c_17 => ?_)
      · skip
        have hle := (nI_m1_le (by omega) (by omega)).mp c_17
        have hf2 : (m, v) = w_top 24 0 n w := by rw [← hf]; show _ = if _ then _ else _; rw [if_neg (by omega)]
        refine mm_vret dX0_topUp_122 rfl ?_
        exact ⟨rfl, rfl, by rw [← hf2]; exact ⟨h1, h2, h3⟩, by rw [← hf2]; exact hoo, hfr⟩
      · skip
        have hlt : x + 1 < m := Nat.not_le.mp fun q => c_17 ((nI_m1_le (by omega) (by omega)).mpr q)
        have hf2 : w_top f (if w_pour x m v x < 2250 then x else x + 1) (if w_pour x m v (m - 1) = 0 then m - 1 else m) (w_pour x m v) = w_top 24 0 n w := by rw [← hf]; show _ = if _ then _ else _; rw [if_pos hlt]
        have hok := w_pour_ok hlt hoo
        have a1 := o3 x
        have a2 := o3 (m - 1)
        have hb1 : w_by x m v ≤ 2250 - v x := by unfold w_by; split <;> omega
        have hb2 : w_by x m v ≤ v (m - 1) := by unfold w_by; split <;> omega
        have hx1 := hin1 x (by omega)
        have hx2 := hin1 (m - 1) (by omega)
        refine mm_aload_n dX0_topUp_20 rfl rfl ?_
        refine mm_getI dX0_topUp_21 fl_X0_15 rfl (by assumption) ?_
        refine mm_tope (y := nI m) h1 ?_
        refine mm_aload_n dX0_topUp_24 rfl rfl ?_
        refine mm_getR dX0_topUp_25 fl_X0_9 rfl (by assumption) (by assumption) ?_
        refine mm_alen (t := 0) dX0_topUp_28 (by assumption) (by decide) 12 rfl ?_
        refine mm_icmp_gt 122 dX0_topUp_29 (by decide) (fun c_29 => absurd c_29 (fun q => absurd q (Int32.not_lt.mpr (nI_le (b := 12) (by omega) (by omega))))) (fun c_29 => ?_)
        refine mm_aload_n dX0_topUp_32 rfl rfl ?_
        refine mm_getI dX0_topUp_33 fl_X0_15 rfl (by assumption) ?_
        refine mm_tope (y := nI m) h1 ?_
        refine mm_iconst 1 dX0_topUp_36 rfl ?_
        refine mm_isub dX0_topUp_37 ?_
        refine mm_tope (y := nI (m - 1)) (nI_m1 (by omega)) ?_
        refine mm_istore_n dX0_topUp_38 rfl (Nat.le_of_ble_eq_true rfl) ?_
        refine mm_sipush 2250 dX0_topUp_39 rfl ?_
        refine mm_aload_n dX0_topUp_42 rfl rfl ?_
        refine mm_getR dX0_topUp_43 fl_X0_9 rfl (by assumption) (by assumption) ?_
        refine mm_iload_n dX0_topUp_46 rfl rfl ?_
        refine mm_iald dX0_topUp_47 (by assumption) (by assumption) ?_
        rw [nI_clamp (by omega), h3 x (by omega)]
        refine mm_isub dX0_topUp_48 ?_
        refine mm_tope (y := nI (2250 - v x)) (pk_sub (a := 2250) a1) ?_
        refine mm_aload_n dX0_topUp_49 rfl rfl ?_
        refine mm_getR dX0_topUp_50 fl_X0_9 rfl (by assumption) (by assumption) ?_
        refine mm_iload_n dX0_topUp_53 rfl rfl ?_
        refine mm_iald dX0_topUp_54 (by assumption) (by assumption) ?_
        rw [nI_clamp (by omega), h3 (m - 1) (by omega)]
        refine mm_min dX0_topUp_55 lk_X0_34 min_st ini_Math min_code (by decide) (by decide) (Nat.zero_le _) (Nat.zero_le _) ?_
        refine mm_tope (y := nI (w_by x m v)) (by unfold w_by; by_cases q : v (m - 1) < 2250 - v x; (rw [if_pos (nI_lt q (by omega)), if_pos q]); (rw [if_neg (nI_nlt (by omega) (by omega)), if_neg q])) ?_
        refine mm_istore dX0_topUp_58 (Nat.le_of_ble_eq_true rfl) ?_
        refine mm_aload_n dX0_topUp_60 rfl rfl ?_
        refine mm_getR dX0_topUp_61 fl_X0_9 rfl (by assumption) (by assumption) ?_
        refine mm_iload_n dX0_topUp_64 rfl rfl ?_
        refine mm_dup2 dX0_topUp_65 rfl rfl ?_
        refine mm_iald dX0_topUp_66 (by assumption) (by assumption) ?_
        rw [nI_clamp (by omega), h3 x (by omega)]
        refine mm_iload dX0_topUp_67 rfl ?_
        refine mm_iadd dX0_topUp_69 ?_
        refine mm_tope (y := nI (v x + w_by x m v)) (nI_add _ _) ?_
        refine mm_iast dX0_topUp_70 (by assumption) (by assumption) ?_
        rw [nI_clamp (by omega)]
        refine mm_aload_n dX0_topUp_71 rfl rfl ?_
        refine mm_getR dX0_topUp_72 fl_X0_9 rfl (by assumption) (by assumption) ?_
        refine mm_iload_n dX0_topUp_75 rfl rfl ?_
        refine mm_dup2 dX0_topUp_76 rfl rfl ?_
        refine mm_iald dX0_topUp_77 (by assumption) (by assumption) ?_
        rw [nI_clamp (by omega), mm_wr_k (by omega), h3 (m - 1) (by omega)]
        refine mm_iload dX0_topUp_78 rfl ?_
        refine mm_isub dX0_topUp_80 ?_
        refine mm_tope (y := nI (v (m - 1) - w_by x m v)) (pk_sub hb2) ?_
        refine mm_iast dX0_topUp_81 (by assumption) (by assumption) ?_
        rw [nI_clamp (by omega)]
        refine mm_G.gen (P := fun J => (∀ k, k < 12 → J (a + 1) k = nI (w_pour x m v k)) ∧ ∀ c, c ≠ a + 1 → J c = I1 c) ⟨fun k hk => by
            unfold w_pour
            by_cases e2 : k = m - 1
            · subst e2; rw [mm_wr_s, if_neg (by omega), if_pos rfl]
            · rw [mm_wr_k e2]
              by_cases e1 : k = x
              · subst e1; rw [mm_wr_s, if_pos rfl]
              · rw [mm_wr_k e1, if_neg e1, if_neg e2]; exact h3 k hk, fun c hc => by rw [mm_wr_row hc, mm_wr_row hc]⟩ (fun J1 hJ => ?_)
        obtain ⟨j1, j2⟩ := hJ
        have jp := hok.2.2.1
        have jp1 := jp (m - 1)
        have jp2 := jp x
        refine mm_aload_n dX0_topUp_82 rfl rfl ?_
        refine mm_getR dX0_topUp_83 fl_X0_9 rfl (by assumption) (by assumption) ?_
        refine mm_iload_n dX0_topUp_86 rfl rfl ?_
        refine mm_iald dX0_topUp_87 (by assumption) (by assumption) ?_
        rw [nI_clamp (by omega), j1 (m - 1) (by omega)]
        refine mm_if_ne 101 dX0_topUp_88 (by decide) (fun c_88 => ?_) (fun c_88 => ?_)
        · skip
          have hne : ¬ w_pour x m v (m - 1) = 0 := fun e => c_88 (by rw [e]; rfl)
          rw [if_neg hne] at hf2 hok
          have k1 : J1 a 1 = nI m := by rw [j2 a hn1]; exact h1
          have k2 : J1 a 2 = nI r := by rw [j2 a hn1]; exact h2
          have k4 : ∀ c, c ≠ a → c ≠ a + 1 → J1 c = I c := fun c q1 q2 => by rw [j2 c q2]; exact hfr c q1 q2
          refine mm_aload_n dX0_topUp_101 rfl rfl ?_
          refine mm_getR dX0_topUp_102 fl_X0_9 rfl (by assumption) (by assumption) ?_
          refine mm_iload_n dX0_topUp_105 rfl rfl ?_
          refine mm_iald dX0_topUp_106 (by assumption) (by assumption) ?_
          rw [nI_clamp (by omega), j1 x (by omega)]
          refine mm_sipush 2250 dX0_topUp_107 rfl ?_
          refine mm_icmp_lt 116 dX0_topUp_110 (by decide) (fun c_110 => ?_) (fun c_110 => ?_)
          · skip
            have hlt2 : w_pour x m v x < 2250 := Nat.not_le.mp fun q => nI_nlt (b := 2250) q (by omega) c_110
            rw [if_pos hlt2] at hf2
            refine mm_iinc 1 dX0_topUp_116 rfl rfl (Nat.le_of_ble_eq_true rfl) ?_
            rw [nI_1]
            refine mm_goto 4 dX0_topUp_119 (by decide) ?_
            exact mm_G.at (ih (t + 1) _ _ _ _ (by omega) ⟨k1, k2, j1⟩ hok (by omega) hf2 k4) (mm_s1 rfl (mm_s1 rfl (mm_s1 rfl mm_s0)))
          · skip
            have hge2 : ¬ w_pour x m v x < 2250 := fun q => c_110 (nI_lt (b := 2250) q (by omega))
            rw [if_neg hge2] at hf2
            refine mm_iinc 1 dX0_topUp_113 rfl rfl (Nat.le_of_ble_eq_true rfl) ?_
            rw [nI_1]
            refine mm_iinc 1 dX0_topUp_116 rfl rfl (Nat.le_of_ble_eq_true rfl) ?_
            rw [nI_1]
            refine mm_goto 4 dX0_topUp_119 (by decide) ?_
            exact mm_G.at (ih (t + 1) _ _ _ _ (by omega) ⟨k1, k2, j1⟩ hok (by omega) hf2 k4) (mm_s1 rfl (mm_s1 rfl (mm_s1 rfl mm_s0)))
        · skip
          have he : w_pour x m v (m - 1) = 0 := by
            rcases Nat.eq_zero_or_pos (w_pour x m v (m - 1)) with e | e
            · exact e
            · exact absurd c_88 (nI_ne0 e (by omega))
          rw [if_pos he] at hf2 hok
          refine mm_aload_n dX0_topUp_91 rfl rfl ?_
          refine mm_dup dX0_topUp_92 rfl ?_
          refine mm_getI dX0_topUp_93 fl_X0_15 rfl (by assumption) ?_
          refine mm_tope (y := nI m) (by rw [j2 a hn1]; exact h1) ?_
          refine mm_iconst 1 dX0_topUp_96 rfl ?_
          refine mm_isub dX0_topUp_97 ?_
          refine mm_tope (y := nI (m - 1)) (nI_m1 (by omega)) ?_
          refine mm_putI dX0_topUp_98 fl_X0_15 rfl rfl (by assumption) ?_
          have k1 : mm_wr J1 a 1 (nI (m - 1)) a 1 = nI (m - 1) := mm_wr_s
          have k2 : mm_wr J1 a 1 (nI (m - 1)) a 2 = nI r := by rw [mm_wr_k (by decide), j2 a hn1]; exact h2
          have k3 : ∀ k, k < 12 → mm_wr J1 a 1 (nI (m - 1)) (a + 1) k = nI (w_pour x m v k) := fun k hk => by rw [mm_wr_a (Ne.symm hn1)]; exact j1 k hk
          have k4 : ∀ c, c ≠ a → c ≠ a + 1 → mm_wr J1 a 1 (nI (m - 1)) c = I c := fun c q1 q2 => by rw [mm_wr_row q1, j2 c q2]; exact hfr c q1 q2
          clear j2
          generalize mm_wr J1 a 1 (nI (m - 1)) = J1 at k1 k2 k3 k4 ⊢
          rename (∀ k, k < 12 → J1 (a + 1) k = nI (w_pour x m v k)) => j1
          refine mm_aload_n dX0_topUp_101 rfl rfl ?_
          refine mm_getR dX0_topUp_102 fl_X0_9 rfl (by assumption) (by assumption) ?_
          refine mm_iload_n dX0_topUp_105 rfl rfl ?_
          refine mm_iald dX0_topUp_106 (by assumption) (by assumption) ?_
          rw [nI_clamp (by omega), j1 x (by omega)]
          refine mm_sipush 2250 dX0_topUp_107 rfl ?_
          refine mm_icmp_lt 116 dX0_topUp_110 (by decide) (fun c_110 => ?_) (fun c_110 => ?_)
          · skip
            have hlt2 : w_pour x m v x < 2250 := Nat.not_le.mp fun q => nI_nlt (b := 2250) q (by omega) c_110
            rw [if_pos hlt2] at hf2
            refine mm_iinc 1 dX0_topUp_116 rfl rfl (Nat.le_of_ble_eq_true rfl) ?_
            rw [nI_1]
            refine mm_goto 4 dX0_topUp_119 (by decide) ?_
            exact mm_G.at (ih (t + 1) _ _ _ _ (by omega) ⟨k1, k2, j1⟩ hok (by omega) hf2 k4) (mm_s1 rfl (mm_s1 rfl (mm_s1 rfl mm_s0)))
          · skip
            have hge2 : ¬ w_pour x m v x < 2250 := fun q => c_110 (nI_lt (b := 2250) q (by omega))
            rw [if_neg hge2] at hf2
            refine mm_iinc 1 dX0_topUp_113 rfl rfl (Nat.le_of_ble_eq_true rfl) ?_
            rw [nI_1]
            refine mm_iinc 1 dX0_topUp_116 rfl rfl (Nat.le_of_ble_eq_true rfl) ?_
            rw [nI_1]
            refine mm_goto 4 dX0_topUp_119 (by decide) ?_
            exact mm_G.at (ih (t + 1) _ _ _ _ (by omega) ⟨k1, k2, j1⟩ hok (by omega) hf2 k4) (mm_s1 rfl (mm_s1 rfl (mm_s1 rfl mm_s0)))
  refine mm_iconst 0 dX0_topUp_0 rfl ?_
  refine mm_istore_n dX0_topUp_1 rfl (Nat.le_of_ble_eq_true rfl) ?_
  refine mm_iconst 0 dX0_topUp_2 rfl ?_
  refine mm_istore_n dX0_topUp_3 rfl (Nat.le_of_ble_eq_true rfl) ?_
  exact mm_G.at (loop 24 0 0 n w I rfl hv ho (by omega) rfl (fun _ _ _ => rfl)) (mm_s1 rfl (mm_s1 rfl (mm_s1 rfl mm_s0)))
set_option maxRecDepth 100000 in
set_option maxHeartbeats 4000000 in
theorem c_fill {S : mm_S} {I : mm_I} {a n : Nat} {r : Int32} (hB : mm_bar S a) (hn : n ≤ 12) : mm_cv mX0_fill [.ref a, .int (nI n), .int r] S I (fun J => J = mm_row (mm_wr (mm_wr I a 1 (nI n)) a 2 r) (a + 1) 12 (fun i => if i < n then 2250 else 0)) := by
  obtain ⟨hk, hp, hkw⟩ := hB
  refine mm_cv.of okX0_fill rfl (Nat.le_of_ble_eq_true rfl) (lv := [(0, .ref a), (1, .int (nI n)), (2, .int r)]) rfl ?_
  have loop : ∀ (t i : Nat), i + t = 12 → mm_Gv mX0_fill (fun J => J = mm_row (mm_wr (mm_wr I a 1 (nI n)) a 2 r) (a + 1) 12 (fun i => if i < n then 2250 else 0)) 12 [(3, .int (nI i)), (0, .ref a), (1, .int (nI n))] [] S S (mm_row (mm_wr (mm_wr I a 1 (nI n)) a 2 r) (a + 1) i (fun i => if i < n then 2250 else 0)) := by
    intro t
    induction t with
    | zero =>
      intro i hi
      refine mm_iload_n dX0_fill_12 rfl rfl ?_
      refine mm_aload_n dX0_fill_13 rfl rfl ?_
      refine mm_getR dX0_fill_14 fl_X0_9 rfl (by assumption) (by assumption) ?_
      refine mm_alen (t := 0) dX0_fill_17 (by assumption) (by decide) 12 rfl ?_
      refine mm_icmp_ge 45 dX0_fill_18 (by decide) (fun c_18 => ?_) (fun c_18 => absurd (nI_le (a := 12) (by omega) (by omega)) c_18)
      refine mm_vret dX0_fill_45 rfl ?_
      exact ⟨rfl, rfl, by rw [show i = 12 by omega]⟩
    | succ t ih =>
      intro i hi
      have hin : vp_in (nI i) 12 := vp_in_nI (by omega) (by omega)
      refine mm_iload_n dX0_fill_12 rfl rfl ?_
      refine mm_aload_n dX0_fill_13 rfl rfl ?_
      refine mm_getR dX0_fill_14 fl_X0_9 rfl (by assumption) (by assumption) ?_
      refine mm_alen (t := 0) dX0_fill_17 (by assumption) (by decide) 12 rfl ?_
      refine mm_icmp_ge 45 dX0_fill_18 (by decide) (fun c_18 => absurd c_18 (nI_ge (b := 12) (by omega) (by omega))) (fun c_18 => ?_)
      refine mm_aload_n dX0_fill_21 rfl rfl ?_
      refine mm_getR dX0_fill_22 fl_X0_9 rfl (by assumption) (by assumption) ?_
      refine mm_iload_n dX0_fill_25 rfl rfl ?_
      refine mm_iload_n dX0_fill_26 rfl rfl ?_
      refine mm_iload_n dX0_fill_27 rfl rfl ?_
      refine mm_icmp_ge 37 dX0_fill_28 (by decide) (fun c_28 => ?_) (fun c_28 => ?_)
      · skip
        have hq : (fun i => if i < n then 2250 else 0) i = (0 : Int32) := if_neg (fun q => absurd c_28 (nI_ge q (by omega)))
        refine mm_iconst 0 dX0_fill_37 rfl ?_
        refine mm_tope (y := (fun i => if i < n then 2250 else 0) i) hq.symm ?_
        refine mm_iast dX0_fill_38 (by assumption) (by assumption) ?_
        rw [nI_clamp (by omega)]
        refine mm_G.i (mm_row_S (f := (fun i => if i < n then 2250 else 0))) ?_
        refine mm_iinc 1 dX0_fill_39 rfl rfl (Nat.le_of_ble_eq_true rfl) ?_
        rw [nI_1]
        refine mm_goto 12 dX0_fill_42 (by decide) ?_
        exact mm_G.at (ih (i + 1) (by omega)) (mm_s1 rfl (mm_s1 rfl (mm_s1 rfl mm_s0)))
      · skip
        have hq : (fun i => if i < n then 2250 else 0) i = (2250 : Int32) := if_pos (Nat.not_le.mp fun q => c_28 (nI_le q (by omega)))
        refine mm_sipush 2250 dX0_fill_31 rfl ?_
        refine mm_tope (y := (fun i => if i < n then 2250 else 0) i) hq.symm ?_
        refine mm_goto 38 dX0_fill_34 (by decide) ?_
        refine mm_iast dX0_fill_38 (by assumption) (by assumption) ?_
        rw [nI_clamp (by omega)]
        refine mm_G.i (mm_row_S (f := (fun i => if i < n then 2250 else 0))) ?_
        refine mm_iinc 1 dX0_fill_39 rfl rfl (Nat.le_of_ble_eq_true rfl) ?_
        rw [nI_1]
        refine mm_goto 12 dX0_fill_42 (by decide) ?_
        exact mm_G.at (ih (i + 1) (by omega)) (mm_s1 rfl (mm_s1 rfl (mm_s1 rfl mm_s0)))
  refine mm_aload_n dX0_fill_0 rfl rfl ?_
  refine mm_iload_n dX0_fill_1 rfl rfl ?_
  refine mm_putI dX0_fill_2 fl_X0_15 rfl rfl (by assumption) ?_
  refine mm_aload_n dX0_fill_5 rfl rfl ?_
  refine mm_iload_n dX0_fill_6 rfl rfl ?_
  refine mm_putI dX0_fill_7 fl_X0_19 rfl rfl (by assumption) ?_
  refine mm_iconst 0 dX0_fill_10 rfl ?_
  refine mm_istore_n dX0_fill_11 rfl (Nat.le_of_ble_eq_true rfl) ?_
  refine mm_G.i (mm_row_0 (b := a + 1) (f := (fun i => if i < n then 2250 else 0))).symm ?_
  exact mm_G.at (loop 12 0 (by omega)) (mm_s1 rfl (mm_s1 rfl (mm_s1 rfl mm_s0)))
set_option maxRecDepth 100000 in
set_option maxHeartbeats 4000000 in
theorem c_copyBarrels {S : mm_S} {I : mm_I} {a b : Nat} (hA : mm_bar S a) (hB : mm_bar S b) (hab : b ≠ a + 1) : mm_cv mX0_copyBarrels [.ref a, .ref b] S I (fun J => J = mm_wr (mm_wr (mm_row I (a + 1) 12 (I (b + 1))) a 1 (I b 1)) a 2 (I b 2)) := by
  obtain ⟨hk, hp, hkw⟩ := hA
  obtain ⟨gk, gp, gkw⟩ := hB
  refine mm_cv.of okX0_copyBarrels rfl (Nat.le_of_ble_eq_true rfl) (lv := [(0, .ref a), (1, .ref b)]) rfl ?_
  refine mm_aload_n dX0_copyBarrels_0 rfl rfl ?_
  refine mm_getR dX0_copyBarrels_1 fl_X0_9 rfl (by assumption) (by assumption) ?_
  refine mm_aload_n dX0_copyBarrels_4 rfl rfl ?_
  refine mm_getR dX0_copyBarrels_5 fl_X0_9 rfl (by assumption) (by assumption) ?_
  refine mm_SNv (N := mX7_copyRow) (as := [_, _]) dX0_copyBarrels_8 lk_X0_22 okX7_copyRow (by decide) rfl rfl (by decide) (c_copyRow gkw hkw (by omega)) (fun J1 hJ => ?_)
  subst hJ
  refine mm_aload_n dX0_copyBarrels_11 rfl rfl ?_
  refine mm_aload_n dX0_copyBarrels_12 rfl rfl ?_
  refine mm_getI dX0_copyBarrels_13 fl_X0_15 rfl (by assumption) ?_
  rw [mm_row_ne hab]
  refine mm_putI dX0_copyBarrels_16 fl_X0_15 rfl rfl (by assumption) ?_
  refine mm_aload_n dX0_copyBarrels_19 rfl rfl ?_
  refine mm_aload_n dX0_copyBarrels_20 rfl rfl ?_
  refine mm_getI dX0_copyBarrels_21 fl_X0_19 rfl (by assumption) ?_
  rw [mm_wr_k (by decide), mm_row_ne hab]
  refine mm_putI dX0_copyBarrels_24 fl_X0_19 rfl rfl (by assumption) ?_
  refine mm_vret dX0_copyBarrels_27 rfl ?_
  exact ⟨rfl, rfl, rfl⟩
end
section
/-! LOTS AND BOOKS -/
def mm_lot (S : mm_S) (a : Nat) : Prop := (S.2.1 a).1 = 4 ∧ S.2.2 a 0 = some (a + 1) ∧ S.2.2 a 1 = some (a + 3) ∧ S.2.2 a 2 = some (a + 4) ∧ S.2.2 a 3 = some (a + 5) ∧ mm_bar S (a + 1) ∧ S.2.1 (a + 3) = (9, 6) ∧ S.2.1 (a + 4) = (9, 6) ∧ S.2.1 (a + 5) = (9, 6)
def w_quote (sc t : Nat) : Nat := 10 + sc / t * (sc / t) / 100
def w_cut (h c al : Nat) : Nat := if al ≤ c then 0 else h - h * c / al
theorem nI_addneg {a b : Nat} (h : b ≤ a) : nI a + -nI b = nI (a - b) := by
  rw [← Int32.sub_eq_add_neg]
  exact pk_sub h
theorem w_share_le {p k h : Nat} (hk : k ≤ h) : p * k / h ≤ p := by
  rcases Nat.eq_zero_or_pos h with e | e
  · subst e; rw [Nat.div_zero]; exact Nat.zero_le _
  · exact Nat.div_le_of_le_mul (by rw [Nat.mul_comm h p]; exact Nat.mul_le_mul_left p hk)
def mm_bk (S : mm_S) (a : Nat) : Prop := (S.2.1 a).1 = 1 ∧ S.2.2 a 0 = some (a + 1) ∧ S.2.1 (a + 1) = (9, 72)
/-- what a book's cell answers: e entries, f the cells -/
def w_cell (e : Int32) (f : Nat → Int32) (i w : Int32) : Int32 := if i < 0 ∨ ¬ (0 ≤ w ∧ w ≤ 5) then -2000000001 else if i < e then f (6 * i.toNatClampNeg + w.toNatClampNeg) else -2000000004
def w_six (k l b c m f : Int32) (j : Nat) : Int32 := match j with
  | 0 => k | 1 => l | 2 => b | 3 => c | 4 => m | _ => f
def w_book (g : Nat → Int32) (k l b c m f : Int32) (j : Nat) : Int32 := if j < 6 then w_six k l b c m f j else g (j - 6)

set_option maxRecDepth 100000 in
set_option maxHeartbeats 4000000 in
theorem c_quote {S : mm_S} {I : mm_I} {a sc t : Nat} (hL : mm_lot S a) (h6 : I a 6 = nI sc) (h7 : I a 7 = nI t) (hs : sc ≤ 100 * t) (ht : t < 10000) : mm_ci mX4_quote [.ref a] S I (fun q J => q = nI (w_quote sc t) ∧ J = I) := by
  obtain ⟨hk, hp0, hp1, hp2, hp3, hB, hk3, hk4, hk5⟩ := hL
  have hm : sc / t ≤ 100 := by
    rcases Nat.eq_zero_or_pos t with e | e
    · subst e; rw [Nat.div_zero]; exact Nat.zero_le _
    · exact Nat.div_le_of_le_mul (by rw [Nat.mul_comm]; exact hs)
  have hmm : sc / t * (sc / t) ≤ 100 * 100 := Nat.mul_le_mul hm hm
  refine mm_ci.of okX4_quote rfl (Nat.le_of_ble_eq_true rfl) (lv := [(0, .ref a)]) rfl ?_
  refine mm_aload_n dX4_quote_0 rfl rfl ?_
  refine mm_getI dX4_quote_1 fl_X4_47 rfl (by assumption) ?_
  refine mm_tope (y := nI t) h7 ?_
  refine mm_if_gt 10 dX4_quote_4 (by decide) (fun c_4 => ?_) (fun c_4 => ?_)
  · skip
    have ht0 : 0 < t := by
      rcases Nat.eq_zero_or_pos t with e | e
      · subst e; exact absurd c_4 (by decide)
      · exact e
    have hne : ¬ nI t = 0 := nI_ne0 ht0 (by omega)
    refine mm_aload_n dX4_quote_10 rfl rfl ?_
    refine mm_getI dX4_quote_11 fl_X4_44 rfl (by assumption) ?_
    refine mm_tope (y := nI sc) h6 ?_
    refine mm_aload_n dX4_quote_14 rfl rfl ?_
    refine mm_getI dX4_quote_15 fl_X4_47 rfl (by assumption) ?_
    refine mm_tope (y := nI t) h7 ?_
    refine mm_idiv dX4_quote_18 (by assumption) ?_
    refine mm_tope (y := nI (sc / t)) (pk_div (by omega) ht0 (by omega)) ?_
    refine mm_istore_n dX4_quote_19 rfl (Nat.le_of_ble_eq_true rfl) ?_
    refine mm_bipush 10 dX4_quote_20 rfl ?_
    refine mm_iload_n dX4_quote_22 rfl rfl ?_
    refine mm_iload_n dX4_quote_23 rfl rfl ?_
    refine mm_imul dX4_quote_24 ?_
    refine mm_tope (y := nI (sc / t * (sc / t))) (pk_mul _ _) ?_
    refine mm_bipush 100 dX4_quote_25 rfl ?_
    refine mm_idiv dX4_quote_27 (by decide) ?_
    refine mm_tope (y := nI (sc / t * (sc / t) / 100)) (pk_div (d := 100) (by omega) (by omega) (by omega)) ?_
    refine mm_iadd dX4_quote_28 ?_
    refine mm_tope (y := nI (w_quote sc t)) (nI_add 10 _) ?_
    refine mm_iret dX4_quote_29 rfl ?_
    exact ⟨rfl, _, rfl, rfl, rfl⟩
  · skip
    have ht0 : t = 0 := by
      rcases Nat.eq_zero_or_pos t with e | e
      · exact e
      · exact absurd (nI_lt e (by omega)) c_4
    refine mm_bipush 10 dX4_quote_7 rfl ?_
    refine mm_iret dX4_quote_9 rfl ?_
    exact ⟨rfl, _, rfl, by rw [ht0]; unfold w_quote; rw [Nat.div_zero]; rfl, rfl⟩
set_option maxRecDepth 100000 in
set_option maxHeartbeats 4000000 in
theorem c_allHeld {S : mm_S} {I : mm_I} {a : Nat} (hL : mm_lot S a) : mm_ci mX4_allHeld [.ref a] S I (fun q J => q = is_sum (I (a + 3)) 6 ∧ J = I) := by
  obtain ⟨hk, hp0, hp1, hp2, hp3, hB, hk3, hk4, hk5⟩ := hL
  refine mm_ci.of okX4_allHeld rfl (Nat.le_of_ble_eq_true rfl) (lv := [(0, .ref a)]) rfl ?_
  refine mm_aload_n dX4_allHeld_0 rfl rfl ?_
  refine mm_getR dX4_allHeld_1 fl_X4_18 rfl (by assumption) (by assumption) ?_
  refine mm_SNi (N := mX7_sum) (as := [_]) dX4_allHeld_4 lk_X4_50 okX7_sum (by decide) rfl rfl (by decide) (c_sum hk3 (by omega)) (fun r1 J1 hq => ?_)
  obtain ⟨rfl, hJ⟩ := hq
  subst J1
  refine mm_iret dX4_allHeld_7 rfl ?_
  exact ⟨rfl, _, rfl, rfl, rfl⟩
set_option maxRecDepth 100000 in
set_option maxHeartbeats 4000000 in
theorem c_allDelivered {S : mm_S} {I : mm_I} {a : Nat} (hL : mm_lot S a) : mm_ci mX4_allDelivered [.ref a] S I (fun q J => q = is_sum (I (a + 5)) 6 ∧ J = I) := by
  obtain ⟨hk, hp0, hp1, hp2, hp3, hB, hk3, hk4, hk5⟩ := hL
  refine mm_ci.of okX4_allDelivered rfl (Nat.le_of_ble_eq_true rfl) (lv := [(0, .ref a)]) rfl ?_
  refine mm_aload_n dX4_allDelivered_0 rfl rfl ?_
  refine mm_getR dX4_allDelivered_1 fl_X4_25 rfl (by assumption) (by assumption) ?_
  refine mm_SNi (N := mX7_sum) (as := [_]) dX4_allDelivered_4 lk_X4_50 okX7_sum (by decide) rfl rfl (by decide) (c_sum hk5 (by omega)) (fun r1 J1 hq => ?_)
  obtain ⟨rfl, hJ⟩ := hq
  subst J1
  refine mm_iret dX4_allDelivered_7 rfl ?_
  exact ⟨rfl, _, rfl, rfl, rfl⟩
set_option maxRecDepth 100000 in
set_option maxHeartbeats 4000000 in
theorem c_casesNow_b {S : mm_S} {I : mm_I} {a : Nat} (hL : mm_lot S a) (h4 : I a 4 = 1) : mm_ci mX4_casesNow [.ref a] S I (fun q J => q = I a 5 - is_sum (I (a + 5)) 6 ∧ J = I) := by
  have hL0 := hL
  obtain ⟨hk, hp0, hp1, hp2, hp3, hB, hk3, hk4, hk5⟩ := hL
  refine mm_ci.of okX4_casesNow rfl (Nat.le_of_ble_eq_true rfl) (lv := [(0, .ref a)]) rfl ?_
  refine mm_aload_n dX4_casesNow_0 rfl rfl ?_
  refine mm_getI dX4_casesNow_1 fl_X4_36 rfl (by assumption) ?_
  refine mm_tope (y := 1) h4 ?_
  refine mm_if_eq 19 dX4_casesNow_4 (by decide) (fun c_4 => absurd c_4 (by decide)) (fun c_4 => ?_)
  refine mm_aload_n dX4_casesNow_7 rfl rfl ?_
  refine mm_getI dX4_casesNow_8 fl_X4_40 rfl (by assumption) ?_
  refine mm_aload_n dX4_casesNow_11 rfl rfl ?_
  refine mm_Vi (N := mX4_allDelivered) (ci := 4) (as := []) dX4_casesNow_12 lk_X4_54 okX4_allDelivered (by decide) rfl (by decide) rfl (by assumption) rfl (by first | decide | (simp [Value.category])) (c_allDelivered hL0) (fun r1 J1 hq => ?_)
  obtain ⟨rfl, hJ⟩ := hq
  subst J1
  refine mm_isub dX4_casesNow_15 ?_
  refine mm_goto 27 dX4_casesNow_16 (by decide) ?_
  refine mm_iret dX4_casesNow_27 rfl ?_
  exact ⟨rfl, _, rfl, rfl, rfl⟩
set_option maxRecDepth 100000 in
set_option maxHeartbeats 4000000 in
theorem c_casesNow_o {S : mm_S} {I : mm_I} {a n r : Nat} {w : Nat → Nat} (hL : mm_lot S a) (h4 : I a 4 = 0) (hv : wv_at I (a + 1) n r w) (ho : wv_ok n r w) : mm_ci mX4_casesNow [.ref a] S I (fun q J => q = nI (ws_sum w n / 90) ∧ J = I) := by
  obtain ⟨hk, hp0, hp1, hp2, hp3, hB, hk3, hk4, hk5⟩ := hL
  obtain ⟨hk', hp', hkw⟩ := id hB
  refine mm_ci.of okX4_casesNow rfl (Nat.le_of_ble_eq_true rfl) (lv := [(0, .ref a)]) rfl ?_
  refine mm_aload_n dX4_casesNow_0 rfl rfl ?_
  refine mm_getI dX4_casesNow_1 fl_X4_36 rfl (by assumption) ?_
  refine mm_tope (y := 0) h4 ?_
  refine mm_if_eq 19 dX4_casesNow_4 (by decide) (fun c_4 => ?_) (fun c_4 => absurd rfl c_4)
  refine mm_aload_n dX4_casesNow_19 rfl rfl ?_
  refine mm_getR dX4_casesNow_20 fl_X4_12 rfl (by assumption) (by assumption) ?_
  refine mm_iconst 0 dX4_casesNow_23 rfl ?_
  refine mm_Vi (N := mX0_casesBehind) (ci := 0) (as := [_]) dX4_casesNow_24 lk_X4_58 okX0_casesBehind (by decide) rfl (by decide) rfl (by assumption) rfl (by decide) (c_casesBehind (m := 0) hB hv ho (by omega)) (fun r1 J1 hq => ?_)
  obtain ⟨rfl, hJ⟩ := hq
  subst J1
  refine mm_iret dX4_casesNow_27 rfl ?_
  exact ⟨rfl, _, rfl, rfl, rfl⟩
set_option maxRecDepth 100000 in
set_option maxHeartbeats 4000000 in
theorem c_heldBy {S : mm_S} {I : mm_I} {a b : Nat} (hL : mm_lot S a) (hb : b < 6) : mm_ci mX4_heldBy [.ref a, .int (nI b)] S I (fun q J => q = I (a + 3) b ∧ J = I) := by
  obtain ⟨hk, hp0, hp1, hp2, hp3, hB, hk3, hk4, hk5⟩ := hL
  refine mm_ci.of okX4_heldBy rfl (Nat.le_of_ble_eq_true rfl) (lv := [(0, .ref a), (1, .int (nI b))]) rfl ?_
  refine mm_iload_n dX4_heldBy_0 rfl rfl ?_
  refine mm_if_lt 22 dX4_heldBy_1 (by decide) (fun c_1 => absurd c_1 (nI_pos (by omega))) (fun c_1 => ?_)
  refine mm_iload_n dX4_heldBy_4 rfl rfl ?_
  refine mm_aload_n dX4_heldBy_5 rfl rfl ?_
  refine mm_getR dX4_heldBy_6 fl_X4_18 rfl (by assumption) (by assumption) ?_
  refine mm_alen (t := 0) dX4_heldBy_9 (by assumption) (by decide) 6 rfl ?_
  refine mm_icmp_ge 22 dX4_heldBy_10 (by decide) (fun c_10 => absurd c_10 (nI_ge (b := 6) (by omega) (by omega))) (fun c_10 => ?_)
  refine mm_aload_n dX4_heldBy_13 rfl rfl ?_
  refine mm_getR dX4_heldBy_14 fl_X4_18 rfl (by assumption) (by assumption) ?_
  refine mm_iload_n dX4_heldBy_17 rfl rfl ?_
  refine mm_iald dX4_heldBy_18 (by assumption) (vp_in_nI hb (by omega)) ?_
  rw [nI_clamp (by omega)]
  refine mm_goto 23 dX4_heldBy_19 (by decide) ?_
  refine mm_iret dX4_heldBy_23 rfl ?_
  exact ⟨rfl, _, rfl, rfl, rfl⟩
set_option maxRecDepth 100000 in
set_option maxHeartbeats 4000000 in
theorem c_paidBy {S : mm_S} {I : mm_I} {a b : Nat} (hL : mm_lot S a) (hb : b < 6) : mm_ci mX4_paidBy [.ref a, .int (nI b)] S I (fun q J => q = I (a + 4) b ∧ J = I) := by
  obtain ⟨hk, hp0, hp1, hp2, hp3, hB, hk3, hk4, hk5⟩ := hL
  refine mm_ci.of okX4_paidBy rfl (Nat.le_of_ble_eq_true rfl) (lv := [(0, .ref a), (1, .int (nI b))]) rfl ?_
  refine mm_iload_n dX4_paidBy_0 rfl rfl ?_
  refine mm_if_lt 22 dX4_paidBy_1 (by decide) (fun c_1 => absurd c_1 (nI_pos (by omega))) (fun c_1 => ?_)
  refine mm_iload_n dX4_paidBy_4 rfl rfl ?_
  refine mm_aload_n dX4_paidBy_5 rfl rfl ?_
  refine mm_getR dX4_paidBy_6 fl_X4_22 rfl (by assumption) (by assumption) ?_
  refine mm_alen (t := 0) dX4_paidBy_9 (by assumption) (by decide) 6 rfl ?_
  refine mm_icmp_ge 22 dX4_paidBy_10 (by decide) (fun c_10 => absurd c_10 (nI_ge (b := 6) (by omega) (by omega))) (fun c_10 => ?_)
  refine mm_aload_n dX4_paidBy_13 rfl rfl ?_
  refine mm_getR dX4_paidBy_14 fl_X4_22 rfl (by assumption) (by assumption) ?_
  refine mm_iload_n dX4_paidBy_17 rfl rfl ?_
  refine mm_iald dX4_paidBy_18 (by assumption) (vp_in_nI hb (by omega)) ?_
  rw [nI_clamp (by omega)]
  refine mm_goto 23 dX4_paidBy_19 (by decide) ?_
  refine mm_iret dX4_paidBy_23 rfl ?_
  exact ⟨rfl, _, rfl, rfl, rfl⟩
set_option maxRecDepth 100000 in
set_option maxHeartbeats 4000000 in
theorem c_deliveredTo {S : mm_S} {I : mm_I} {a b : Nat} (hL : mm_lot S a) (hb : b < 6) : mm_ci mX4_deliveredTo [.ref a, .int (nI b)] S I (fun q J => q = I (a + 5) b ∧ J = I) := by
  obtain ⟨hk, hp0, hp1, hp2, hp3, hB, hk3, hk4, hk5⟩ := hL
  refine mm_ci.of okX4_deliveredTo rfl (Nat.le_of_ble_eq_true rfl) (lv := [(0, .ref a), (1, .int (nI b))]) rfl ?_
  refine mm_iload_n dX4_deliveredTo_0 rfl rfl ?_
  refine mm_if_lt 22 dX4_deliveredTo_1 (by decide) (fun c_1 => absurd c_1 (nI_pos (by omega))) (fun c_1 => ?_)
  refine mm_iload_n dX4_deliveredTo_4 rfl rfl ?_
  refine mm_aload_n dX4_deliveredTo_5 rfl rfl ?_
  refine mm_getR dX4_deliveredTo_6 fl_X4_25 rfl (by assumption) (by assumption) ?_
  refine mm_alen (t := 0) dX4_deliveredTo_9 (by assumption) (by decide) 6 rfl ?_
  refine mm_icmp_ge 22 dX4_deliveredTo_10 (by decide) (fun c_10 => absurd c_10 (nI_ge (b := 6) (by omega) (by omega))) (fun c_10 => ?_)
  refine mm_aload_n dX4_deliveredTo_13 rfl rfl ?_
  refine mm_getR dX4_deliveredTo_14 fl_X4_25 rfl (by assumption) (by assumption) ?_
  refine mm_iload_n dX4_deliveredTo_17 rfl rfl ?_
  refine mm_iald dX4_deliveredTo_18 (by assumption) (vp_in_nI hb (by omega)) ?_
  rw [nI_clamp (by omega)]
  refine mm_goto 23 dX4_deliveredTo_19 (by decide) ?_
  refine mm_iret dX4_deliveredTo_23 rfl ?_
  exact ⟨rfl, _, rfl, rfl, rfl⟩
set_option maxRecDepth 100000 in
set_option maxHeartbeats 4000000 in
theorem c_give {S : mm_S} {I : mm_I} {a b : Nat} {x y : Int32} (hL : mm_lot S a) (hb : b < 6) : mm_cv mX4_give [.ref a, .int (nI b), .int x, .int y] S I (fun J => J = mm_wr (mm_wr I (a + 3) b (I (a + 3) b + x)) (a + 4) b (I (a + 4) b + y)) := by
  obtain ⟨hk, hp0, hp1, hp2, hp3, hB, hk3, hk4, hk5⟩ := hL
  have hin : vp_in (nI b) 6 := vp_in_nI hb (by omega)
  refine mm_cv.of okX4_give rfl (Nat.le_of_ble_eq_true rfl) (lv := [(0, .ref a), (1, .int (nI b)), (2, .int x), (3, .int y)]) rfl ?_
  refine mm_iload_n dX4_give_0 rfl rfl ?_
  refine mm_if_lt 42 dX4_give_1 (by decide) (fun c_1 => absurd c_1 (nI_pos (by omega))) (fun c_1 => ?_)
  refine mm_iload_n dX4_give_4 rfl rfl ?_
  refine mm_aload_n dX4_give_5 rfl rfl ?_
  refine mm_getR dX4_give_6 fl_X4_18 rfl (by assumption) (by assumption) ?_
  refine mm_alen (t := 0) dX4_give_9 (by assumption) (by decide) 6 rfl ?_
  refine mm_icmp_ge 42 dX4_give_10 (by decide) (fun c_10 => absurd c_10 (nI_ge (b := 6) (by omega) (by omega))) (fun c_10 => ?_)
  refine mm_iload_n dX4_give_13 rfl rfl ?_
  refine mm_aload_n dX4_give_14 rfl rfl ?_
  refine mm_getR dX4_give_15 fl_X4_22 rfl (by assumption) (by assumption) ?_
  refine mm_alen (t := 0) dX4_give_18 (by assumption) (by decide) 6 rfl ?_
  refine mm_icmp_ge 42 dX4_give_19 (by decide) (fun c_19 => absurd c_19 (nI_ge (b := 6) (by omega) (by omega))) (fun c_19 => ?_)
  refine mm_aload_n dX4_give_22 rfl rfl ?_
  refine mm_getR dX4_give_23 fl_X4_18 rfl (by assumption) (by assumption) ?_
  refine mm_iload_n dX4_give_26 rfl rfl ?_
  refine mm_dup2 dX4_give_27 rfl rfl ?_
  refine mm_iald dX4_give_28 (by assumption) (by assumption) ?_
  rw [nI_clamp (by omega)]
  refine mm_iload_n dX4_give_29 rfl rfl ?_
  refine mm_iadd dX4_give_30 ?_
  refine mm_iast dX4_give_31 (by assumption) (by assumption) ?_
  rw [nI_clamp (by omega)]
  refine mm_aload_n dX4_give_32 rfl rfl ?_
  refine mm_getR dX4_give_33 fl_X4_22 rfl (by assumption) (by assumption) ?_
  refine mm_iload_n dX4_give_36 rfl rfl ?_
  refine mm_dup2 dX4_give_37 rfl rfl ?_
  refine mm_iald dX4_give_38 (by assumption) (by assumption) ?_
  rw [nI_clamp (by omega), mm_wr_a (by omega)]
  refine mm_iload_n dX4_give_39 rfl rfl ?_
  refine mm_iadd dX4_give_40 ?_
  refine mm_iast dX4_give_41 (by assumption) (by assumption) ?_
  rw [nI_clamp (by omega)]
  refine mm_vret dX4_give_42 rfl ?_
  exact ⟨rfl, rfl, rfl⟩
set_option maxRecDepth 100000 in
set_option maxHeartbeats 4000000 in
theorem c_takeBack {S : mm_S} {I : mm_I} {a b h p k : Nat} (hL : mm_lot S a) (hb : b < 6) (h3 : I (a + 3) b = nI h) (h4 : I (a + 4) b = nI p) (hkh : k ≤ h) (hh : h ≤ 1000) (hpp : p ≤ 1000000) : mm_ci mX4_takeBack [.ref a, .int (nI b), .int (nI k)] S I (fun q J => q = nI (p * k / h) ∧ J = mm_wr (mm_wr I (a + 3) b (nI (h - k))) (a + 4) b (nI (p - p * k / h))) := by
  have hL0 := hL
  obtain ⟨hk, hp0, hp1, hp2, hp3, hB, hk3, hk4, hk5⟩ := hL
  have hpk : p * k ≤ 1000000 * 1000 := Nat.mul_le_mul hpp (by omega)
  have hle := w_share_le (p := p) hkh
  refine mm_ci.of okX4_takeBack rfl (Nat.le_of_ble_eq_true rfl) (lv := [(0, .ref a), (1, .int (nI b)), (2, .int (nI k))]) rfl ?_
  refine mm_aload_n dX4_takeBack_0 rfl rfl ?_
  refine mm_iload_n dX4_takeBack_1 rfl rfl ?_
  refine mm_Vi (N := mX4_paidBy) (ci := 4) (as := [_]) dX4_takeBack_2 lk_X4_62 okX4_paidBy (by decide) rfl (by decide) rfl (by assumption) rfl (by decide) (c_paidBy hL0 hb) (fun r1 J1 hq => ?_)
  obtain ⟨rfl, hJ⟩ := hq
  subst J1
  rw [h4]
  refine mm_iload_n dX4_takeBack_5 rfl rfl ?_
  refine mm_aload_n dX4_takeBack_6 rfl rfl ?_
  refine mm_iload_n dX4_takeBack_7 rfl rfl ?_
  refine mm_Vi (N := mX4_heldBy) (ci := 4) (as := [_]) dX4_takeBack_8 lk_X4_65 okX4_heldBy (by decide) rfl (by decide) rfl (by assumption) rfl (by first | decide | (simp [Value.category])) (c_heldBy hL0 hb) (fun r2 J1 hq => ?_)
  obtain ⟨rfl, hJ⟩ := hq
  subst J1
  rw [h3]
  refine mm_SNi (N := mX7_share) (as := [_, _, _]) dX4_takeBack_11 lk_X4_68 okX7_share (by decide) rfl rfl (by decide) (c_share (by omega) (by omega) (by omega) (by omega)) (fun r3 J1 hq => ?_)
  obtain ⟨rfl, hJ⟩ := hq
  subst J1
  refine mm_istore_n dX4_takeBack_14 rfl (Nat.le_of_ble_eq_true rfl) ?_
  refine mm_aload_n dX4_takeBack_15 rfl rfl ?_
  refine mm_iload_n dX4_takeBack_16 rfl rfl ?_
  refine mm_iload_n dX4_takeBack_17 rfl rfl ?_
  refine mm_ineg dX4_takeBack_18 ?_
  refine mm_iload_n dX4_takeBack_19 rfl rfl ?_
  refine mm_ineg dX4_takeBack_20 ?_
  refine mm_Vv (N := mX4_give) (ci := 4) (as := [_, _, _]) dX4_takeBack_21 lk_X4_72 okX4_give (by decide) rfl (by decide) rfl (by assumption) rfl (by decide) (c_give hL0 hb) (fun J1 hq => ?_)
  subst hq
  refine mm_iload_n dX4_takeBack_24 rfl rfl ?_
  refine mm_iret dX4_takeBack_25 rfl ?_
  exact ⟨rfl, _, rfl, rfl, by rw [h3, h4, nI_addneg hkh, nI_addneg hle]⟩
set_option maxRecDepth 100000 in
set_option maxHeartbeats 4000000 in
theorem c_deliver {S : mm_S} {I : mm_I} {a b h p k : Nat} (hL : mm_lot S a) (hb : b < 6) (h3 : I (a + 3) b = nI h) (h4 : I (a + 4) b = nI p) (hkh : k ≤ h) (hh : h ≤ 1000) (hpp : p ≤ 1000000) : mm_cv mX4_deliver [.ref a, .int (nI b), .int (nI k)] S I (fun J => J = mm_wr (mm_wr (mm_wr I (a + 3) b (nI (h - k))) (a + 4) b (nI (p - p * k / h))) (a + 5) b (I (a + 5) b + nI k)) := by
  have hL0 := hL
  obtain ⟨hk, hp0, hp1, hp2, hp3, hB, hk3, hk4, hk5⟩ := hL
  have hin : vp_in (nI b) 6 := vp_in_nI hb (by omega)
  refine mm_cv.of okX4_deliver rfl (Nat.le_of_ble_eq_true rfl) (lv := [(0, .ref a), (1, .int (nI b)), (2, .int (nI k))]) rfl ?_
  refine mm_iload_n dX4_deliver_0 rfl rfl ?_
  refine mm_if_lt 30 dX4_deliver_1 (by decide) (fun c_1 => absurd c_1 (nI_pos (by omega))) (fun c_1 => ?_)
  refine mm_iload_n dX4_deliver_4 rfl rfl ?_
  refine mm_aload_n dX4_deliver_5 rfl rfl ?_
  refine mm_getR dX4_deliver_6 fl_X4_25 rfl (by assumption) (by assumption) ?_
  refine mm_alen (t := 0) dX4_deliver_9 (by assumption) (by decide) 6 rfl ?_
  refine mm_icmp_ge 30 dX4_deliver_10 (by decide) (fun c_10 => absurd c_10 (nI_ge (b := 6) (by omega) (by omega))) (fun c_10 => ?_)
  refine mm_aload_n dX4_deliver_13 rfl rfl ?_
  refine mm_iload_n dX4_deliver_14 rfl rfl ?_
  refine mm_iload_n dX4_deliver_15 rfl rfl ?_
  refine mm_Vi (N := mX4_takeBack) (ci := 4) (as := [_, _]) dX4_deliver_16 lk_X4_76 okX4_takeBack (by decide) rfl (by decide) rfl (by assumption) rfl (by decide) (c_takeBack hL0 hb h3 h4 hkh hh hpp) (fun r1 J1 hq => ?_)
  obtain ⟨rfl, hJ⟩ := hq
  subst J1
  refine mm_pop dX4_deliver_19 rfl ?_
  refine mm_aload_n dX4_deliver_20 rfl rfl ?_
  refine mm_getR dX4_deliver_21 fl_X4_25 rfl (by assumption) (by assumption) ?_
  refine mm_iload_n dX4_deliver_24 rfl rfl ?_
  refine mm_dup2 dX4_deliver_25 rfl rfl ?_
  refine mm_iald dX4_deliver_26 (by assumption) (by assumption) ?_
  rw [nI_clamp (by omega), mm_wr_a (by omega), mm_wr_a (by omega)]
  refine mm_iload_n dX4_deliver_27 rfl rfl ?_
  refine mm_iadd dX4_deliver_28 ?_
  refine mm_iast dX4_deliver_29 (by assumption) (by assumption) ?_
  rw [nI_clamp (by omega)]
  refine mm_vret dX4_deliver_30 rfl ?_
  exact ⟨rfl, rfl, rfl⟩
set_option maxRecDepth 100000 in
set_option maxHeartbeats 4000000 in
theorem c_cutOf {S : mm_S} {I : mm_I} {a b h c al : Nat} (hL : mm_lot S a) (hb : b < 6) (h3 : I (a + 3) b = nI h) (hh : h ≤ 1000) (hc : c ≤ 1000) (hal : al ≤ 1000) : mm_ci mX4_cutOf [.ref a, .int (nI b), .int (nI c), .int (nI al)] S I (fun q J => q = nI (w_cut h c al) ∧ J = I) := by
  have hL0 := hL
  obtain ⟨hk, hp0, hp1, hp2, hp3, hB, hk3, hk4, hk5⟩ := hL
  have hhc : h * c ≤ 1000 * 1000 := Nat.mul_le_mul hh hc
  refine mm_ci.of okX4_cutOf rfl (Nat.le_of_ble_eq_true rfl) (lv := [(0, .ref a), (1, .int (nI b)), (2, .int (nI c)), (3, .int (nI al))]) rfl ?_
  refine mm_iload_n dX4_cutOf_0 rfl rfl ?_
  refine mm_iload_n dX4_cutOf_1 rfl rfl ?_
  refine mm_icmp_gt 7 dX4_cutOf_2 (by decide) (fun c_2 => ?_) (fun c_2 => ?_)
  · skip
    have hlt : c < al := Nat.not_le.mp fun q => absurd c_2 (Int32.not_lt.mpr (nI_le q (by omega)))
    have hle := w_share_le (p := h) (Nat.le_of_lt hlt)
    refine mm_aload_n dX4_cutOf_7 rfl rfl ?_
    refine mm_iload_n dX4_cutOf_8 rfl rfl ?_
    refine mm_Vi (N := mX4_heldBy) (ci := 4) (as := [_]) dX4_cutOf_9 lk_X4_65 okX4_heldBy (by decide) rfl (by decide) rfl (by assumption) rfl (by decide) (c_heldBy hL0 hb) (fun r1 J1 hq => ?_)
    obtain ⟨rfl, hJ⟩ := hq
    subst J1
    rw [h3]
    refine mm_aload_n dX4_cutOf_12 rfl rfl ?_
    refine mm_iload_n dX4_cutOf_13 rfl rfl ?_
    refine mm_Vi (N := mX4_heldBy) (ci := 4) (as := [_]) dX4_cutOf_14 lk_X4_65 okX4_heldBy (by decide) rfl (by decide) rfl (by assumption) rfl (by first | decide | (simp [Value.category])) (c_heldBy hL0 hb) (fun r2 J1 hq => ?_)
    obtain ⟨rfl, hJ⟩ := hq
    subst J1
    rw [h3]
    refine mm_iload_n dX4_cutOf_17 rfl rfl ?_
    refine mm_iload_n dX4_cutOf_18 rfl rfl ?_
    refine mm_SNi (N := mX7_share) (as := [_, _, _]) dX4_cutOf_19 lk_X4_68 okX7_share (by decide) rfl rfl (by first | decide | (simp [Value.category])) (c_share (by omega) (by omega) (by omega) (by omega)) (fun r3 J1 hq => ?_)
    obtain ⟨rfl, hJ⟩ := hq
    subst J1
    refine mm_isub dX4_cutOf_22 ?_
    refine mm_iret dX4_cutOf_23 rfl ?_
    exact ⟨rfl, _, rfl, by unfold w_cut; rw [if_neg (by omega)]; exact pk_sub hle, rfl⟩
  · skip
    have hle : al ≤ c := Nat.not_lt.mp fun q => c_2 (nI_lt q (by omega))
    refine mm_iconst 0 dX4_cutOf_5 rfl ?_
    refine mm_iret dX4_cutOf_6 rfl ?_
    exact ⟨rfl, _, rfl, by unfold w_cut; rw [if_pos hle]; rfl, rfl⟩
set_option maxRecDepth 100000 in
set_option maxHeartbeats 4000000 in
theorem c_fillBottles {S : mm_S} {I : mm_I} {a n r : Nat} {w : Nat → Nat} (hL : mm_lot S a) (hv : wv_at I (a + 1) n r w) (ho : wv_ok n r w) : mm_cv mX4_fillBottles [.ref a] S I (fun J => wv_at J (a + 1) 0 r (fun _ => 0) ∧ J a 4 = 1 ∧ J a 5 = nI (ws_sum w n / 90) ∧ J a 6 = I a 6 ∧ J a 7 = I a 7 ∧ ∀ c, c ≠ a → c ≠ a + 1 → c ≠ a + 1 + 1 → J c = I c) := by
  obtain ⟨hk, hp0, hp1, hp2, hp3, hB, hk3, hk4, hk5⟩ := hL
  obtain ⟨hk', hp', hkw⟩ := id hB
  obtain ⟨h1, h2, h3⟩ := id hv
  refine mm_cv.of okX4_fillBottles rfl (Nat.le_of_ble_eq_true rfl) (lv := [(0, .ref a)]) rfl ?_
  refine mm_aload_n dX4_fillBottles_0 rfl rfl ?_
  refine mm_aload_n dX4_fillBottles_1 rfl rfl ?_
  refine mm_getR dX4_fillBottles_2 fl_X4_12 rfl (by assumption) (by assumption) ?_
  refine mm_iconst 0 dX4_fillBottles_5 rfl ?_
  refine mm_Vi (N := mX0_casesBehind) (ci := 0) (as := [_]) dX4_fillBottles_6 lk_X4_58 okX0_casesBehind (by decide) rfl (by decide) rfl (by assumption) rfl (by first | decide | (simp [Value.category])) (c_casesBehind (m := 0) hB hv ho (by omega)) (fun r1 J1 hq => ?_)
  obtain ⟨rfl, hJ⟩ := hq
  subst J1
  refine mm_putI dX4_fillBottles_9 fl_X4_40 rfl rfl (by assumption) ?_
  refine mm_aload_n dX4_fillBottles_12 rfl rfl ?_
  refine mm_iconst 1 dX4_fillBottles_13 rfl ?_
  refine mm_putZ dX4_fillBottles_14 fl_X4_36 rfl rfl (Or.inr rfl) (by assumption) ?_
  refine mm_aload_n dX4_fillBottles_17 rfl rfl ?_
  refine mm_getR dX4_fillBottles_18 fl_X4_12 rfl (by assumption) (by assumption) ?_
  refine mm_iconst 0 dX4_fillBottles_21 rfl ?_
  refine mm_aload_n dX4_fillBottles_22 rfl rfl ?_
  refine mm_getR dX4_fillBottles_23 fl_X4_12 rfl (by assumption) (by assumption) ?_
  refine mm_getI dX4_fillBottles_26 fl_X4_80 rfl (by assumption) ?_
  refine mm_tope (y := nI r) (by rw [mm_wr_a (by omega), mm_wr_a (by omega)]; exact h2) ?_
  refine mm_Vv (N := mX0_fill) (ci := 0) (as := [_, _]) dX4_fillBottles_29 lk_X4_83 okX0_fill (by decide) rfl (by decide) rfl (by assumption) rfl (by decide) (c_fill (n := 0) hB (by omega)) (fun J1 hq => ?_)
  subst hq
  refine mm_vret dX4_fillBottles_32 rfl ?_
  refine ⟨rfl, rfl, ⟨?_, ?_, fun k hk => ?_⟩, ?_, ?_, ?_, ?_, fun c q1 q2 q3 => ?_⟩
  · rw [mm_row_ne (by omega), mm_wr_k (by decide), mm_wr_s]
  · rw [mm_row_ne (by omega), mm_wr_s]
  · rw [mm_row_in hk]; rfl
  · rw [mm_row_ne (by omega), mm_wr_a (by omega), mm_wr_a (by omega), mm_wr_s]
  · rw [mm_row_ne (by omega), mm_wr_a (by omega), mm_wr_a (by omega), mm_wr_k (by decide), mm_wr_s]; rfl
  · rw [mm_row_ne (by omega), mm_wr_a (by omega), mm_wr_a (by omega), mm_wr_k (by decide), mm_wr_k (by decide)]
  · rw [mm_row_ne (by omega), mm_wr_a (by omega), mm_wr_a (by omega), mm_wr_k (by decide), mm_wr_k (by decide)]
  · rw [mm_row_ne q3, mm_wr_row q2, mm_wr_row q2, mm_wr_row q1, mm_wr_row q1]
/-- the lot at a (in J) is as the lot at b (in I) -/
def mm_leq (J I : mm_I) (a b : Nat) : Prop := (J (a + 1) 1 = I (b + 1) 1 ∧ J (a + 1) 2 = I (b + 1) 2 ∧ ∀ k, k < 12 → J (a + 1 + 1) k = I (b + 1 + 1) k) ∧ (∀ k, k < 6 → J (a + 3) k = I (b + 3) k ∧ J (a + 4) k = I (b + 4) k ∧ J (a + 5) k = I (b + 5) k) ∧ J a 4 = I b 4 ∧ J a 5 = I b 5 ∧ J a 6 = I b 6 ∧ J a 7 = I b 7
set_option maxRecDepth 100000 in
set_option maxHeartbeats 4000000 in
theorem c_copyLot {S : mm_S} {I : mm_I} {a b : Nat} (hL : mm_lot S a) (gL : mm_lot S b) (hab : a + 6 ≤ b ∨ b + 6 ≤ a) (h4 : I b 4 = 0 ∨ I b 4 = 1) : mm_cv mX4_copyLot [.ref a, .ref b] S I (fun J => mm_leq J I a b ∧ ∀ c, c < a ∨ a + 6 ≤ c → J c = I c) := by
  obtain ⟨hk, hp0, hp1, hp2, hp3, hB, hk3, hk4, hk5⟩ := hL
  obtain ⟨gk, gp0, gp1, gp2, gp3, gB, gk3, gk4, gk5⟩ := gL
  refine mm_cv.of okX4_copyLot rfl (Nat.le_of_ble_eq_true rfl) (lv := [(0, .ref a), (1, .ref b)]) rfl ?_
  refine mm_aload_n dX4_copyLot_0 rfl rfl ?_
  refine mm_getR dX4_copyLot_1 fl_X4_12 rfl (by assumption) (by assumption) ?_
  refine mm_aload_n dX4_copyLot_4 rfl rfl ?_
  refine mm_getR dX4_copyLot_5 fl_X4_12 rfl (by assumption) (by assumption) ?_
  refine mm_Vv (N := mX0_copyBarrels) (ci := 0) (as := [_]) dX4_copyLot_8 lk_X4_28 okX0_copyBarrels (by decide) rfl (by decide) rfl hB.1 rfl (by decide) (c_copyBarrels hB gB (by omega)) (fun J1 hq => ?_)
  subst hq
  refine mm_aload_n dX4_copyLot_11 rfl rfl ?_
  refine mm_getR dX4_copyLot_12 fl_X4_18 rfl (by assumption) (by assumption) ?_
  refine mm_aload_n dX4_copyLot_15 rfl rfl ?_
  refine mm_getR dX4_copyLot_16 fl_X4_18 rfl (by assumption) (by assumption) ?_
  refine mm_SNv (N := mX7_copyRow) (as := [_, _]) dX4_copyLot_19 lk_X4_32 okX7_copyRow (by decide) rfl rfl (by decide) (c_copyRow gk3 hk3 (by omega)) (fun J1 hq => ?_)
  subst hq
  refine mm_aload_n dX4_copyLot_22 rfl rfl ?_
  refine mm_getR dX4_copyLot_23 fl_X4_22 rfl (by assumption) (by assumption) ?_
  refine mm_aload_n dX4_copyLot_26 rfl rfl ?_
  refine mm_getR dX4_copyLot_27 fl_X4_22 rfl (by assumption) (by assumption) ?_
  refine mm_SNv (N := mX7_copyRow) (as := [_, _]) dX4_copyLot_30 lk_X4_32 okX7_copyRow (by decide) rfl rfl (by decide) (c_copyRow gk4 hk4 (by omega)) (fun J1 hq => ?_)
  subst hq
  refine mm_aload_n dX4_copyLot_33 rfl rfl ?_
  refine mm_getR dX4_copyLot_34 fl_X4_25 rfl (by assumption) (by assumption) ?_
  refine mm_aload_n dX4_copyLot_37 rfl rfl ?_
  refine mm_getR dX4_copyLot_38 fl_X4_25 rfl (by assumption) (by assumption) ?_
  refine mm_SNv (N := mX7_copyRow) (as := [_, _]) dX4_copyLot_41 lk_X4_32 okX7_copyRow (by decide) rfl rfl (by decide) (c_copyRow gk5 hk5 (by omega)) (fun J1 hq => ?_)
  subst hq
  refine mm_G.gen (P := fun J => ((J (a + 1) 1 = I (b + 1) 1 ∧ J (a + 1) 2 = I (b + 1) 2 ∧ ∀ k, k < 12 → J (a + 1 + 1) k = I (b + 1 + 1) k) ∧ (∀ k, k < 6 → J (a + 3) k = I (b + 3) k ∧ J (a + 4) k = I (b + 4) k ∧ J (a + 5) k = I (b + 5) k)) ∧ ∀ c, c ≤ a ∨ a + 6 ≤ c → J c = I c) ⟨⟨⟨?_, ?_, fun k hk => ?_⟩, fun k hk => ⟨?_, ?_, ?_⟩⟩, fun c hc => ?_⟩ (fun J1 hJ => ?_)
  · rw [mm_row_ne (by omega), mm_row_ne (by omega), mm_row_ne (by omega), mm_wr_k (by decide), mm_wr_s]
  · rw [mm_row_ne (by omega), mm_row_ne (by omega), mm_row_ne (by omega), mm_wr_s]
  · rw [mm_row_ne (by omega), mm_row_ne (by omega), mm_row_ne (by omega), mm_wr_a (by omega), mm_wr_a (by omega), mm_row_in hk]
  · rw [mm_row_ne (by omega), mm_row_ne (by omega), mm_row_in hk, mm_wr_row (by omega), mm_wr_row (by omega), mm_row_ne (by omega)]
  · rw [mm_row_ne (by omega), mm_row_in hk, mm_row_ne (by omega), mm_wr_row (by omega), mm_wr_row (by omega), mm_row_ne (by omega)]
  · rw [mm_row_in hk, mm_row_ne (by omega), mm_row_ne (by omega), mm_wr_row (by omega), mm_wr_row (by omega), mm_row_ne (by omega)]
  · rw [mm_row_ne (by omega), mm_row_ne (by omega), mm_row_ne (by omega), mm_wr_row (by omega), mm_wr_row (by omega), mm_row_ne (by omega)]
  obtain ⟨⟨j1, j2⟩, j3⟩ := hJ
  have jb : J1 b = I b := j3 b (by omega)
  rw [← jb] at h4
  refine mm_aload_n dX4_copyLot_44 rfl rfl ?_
  refine mm_aload_n dX4_copyLot_45 rfl rfl ?_
  refine mm_getI dX4_copyLot_46 fl_X4_36 rfl (by assumption) ?_
  refine mm_putZ dX4_copyLot_49 fl_X4_36 rfl rfl h4 (by assumption) ?_
  refine mm_aload_n dX4_copyLot_52 rfl rfl ?_
  refine mm_aload_n dX4_copyLot_53 rfl rfl ?_
  refine mm_getI dX4_copyLot_54 fl_X4_40 rfl (by assumption) ?_
  refine mm_putI dX4_copyLot_57 fl_X4_40 rfl rfl (by assumption) ?_
  refine mm_aload_n dX4_copyLot_60 rfl rfl ?_
  refine mm_aload_n dX4_copyLot_61 rfl rfl ?_
  refine mm_getI dX4_copyLot_62 fl_X4_44 rfl (by assumption) ?_
  refine mm_putI dX4_copyLot_65 fl_X4_44 rfl rfl (by assumption) ?_
  refine mm_aload_n dX4_copyLot_68 rfl rfl ?_
  refine mm_aload_n dX4_copyLot_69 rfl rfl ?_
  refine mm_getI dX4_copyLot_70 fl_X4_47 rfl (by assumption) ?_
  refine mm_putI dX4_copyLot_73 fl_X4_47 rfl rfl (by assumption) ?_
  refine mm_vret dX4_copyLot_76 rfl ?_
  refine ⟨rfl, rfl, ⟨⟨?_, ?_, fun k hk => ?_⟩, fun k hk => ⟨?_, ?_, ?_⟩, ?_, ?_, ?_, ?_⟩, fun c hc => ?_⟩
  · rw [mm_wr_a (by omega), mm_wr_a (by omega), mm_wr_a (by omega), mm_wr_a (by omega)]; exact j1.1
  · rw [mm_wr_a (by omega), mm_wr_a (by omega), mm_wr_a (by omega), mm_wr_a (by omega)]; exact j1.2.1
  · rw [mm_wr_a (by omega), mm_wr_a (by omega), mm_wr_a (by omega), mm_wr_a (by omega)]; exact j1.2.2 k hk
  · rw [mm_wr_a (by omega), mm_wr_a (by omega), mm_wr_a (by omega), mm_wr_a (by omega)]; exact (j2 k hk).1
  · rw [mm_wr_a (by omega), mm_wr_a (by omega), mm_wr_a (by omega), mm_wr_a (by omega)]; exact (j2 k hk).2.1
  · rw [mm_wr_a (by omega), mm_wr_a (by omega), mm_wr_a (by omega), mm_wr_a (by omega)]; exact (j2 k hk).2.2
  · rw [mm_wr_k (by decide), mm_wr_k (by decide), mm_wr_k (by decide), mm_wr_s, jb]
  · rw [mm_wr_k (by decide), mm_wr_k (by decide), mm_wr_s, mm_wr_a (by omega), jb]
  · rw [mm_wr_k (by decide), mm_wr_s, mm_wr_a (by omega), mm_wr_a (by omega), jb]
  · rw [mm_wr_s, mm_wr_a (by omega), mm_wr_a (by omega), mm_wr_a (by omega), jb]
  · rw [mm_wr_row (by omega), mm_wr_row (by omega), mm_wr_row (by omega), mm_wr_row (by omega)]; exact j3 c (by omega)
set_option maxRecDepth 100000 in
set_option maxHeartbeats 4000000 in
theorem c_copyBook {S : mm_S} {I : mm_I} {a b : Nat} (hB : mm_bk S a) (gB : mm_bk S b) (hab : b ≠ a + 1) : mm_cv mX1_copyBook [.ref a, .ref b] S I (fun J => J = mm_wr (mm_row I (a + 1) 72 (I (b + 1))) a 1 (I b 1)) := by
  obtain ⟨hk, hp, hkw⟩ := hB
  obtain ⟨gk, gp, gkw⟩ := gB
  refine mm_cv.of okX1_copyBook rfl (Nat.le_of_ble_eq_true rfl) (lv := [(0, .ref a), (1, .ref b)]) rfl ?_
  refine mm_aload_n dX1_copyBook_0 rfl rfl ?_
  refine mm_getR dX1_copyBook_1 fl_X1_9 rfl (by assumption) (by assumption) ?_
  refine mm_aload_n dX1_copyBook_4 rfl rfl ?_
  refine mm_getR dX1_copyBook_5 fl_X1_9 rfl (by assumption) (by assumption) ?_
  refine mm_SNv (N := mX7_copyRow) (as := [_, _]) dX1_copyBook_8 lk_X1_15 okX7_copyRow (by decide) rfl rfl (by decide) (c_copyRow gkw hkw (by omega)) (fun J1 hq => ?_)
  subst hq
  refine mm_aload_n dX1_copyBook_11 rfl rfl ?_
  refine mm_aload_n dX1_copyBook_12 rfl rfl ?_
  refine mm_getI dX1_copyBook_13 fl_X1_19 rfl (by assumption) ?_
  rw [mm_row_ne hab]
  refine mm_putI dX1_copyBook_16 fl_X1_19 rfl rfl (by assumption) ?_
  refine mm_vret dX1_copyBook_19 rfl ?_
  exact ⟨rfl, rfl, rfl⟩
set_option maxRecDepth 100000 in
set_option maxHeartbeats 4000000 in
theorem c_cell {S : mm_S} {I : mm_I} {a e : Nat} {i w : Int32} (hB : mm_bk S a) (h1 : I a 1 = nI e) (he : e ≤ 12) : mm_ci mX1_cell [.ref a, .int i, .int w] S I (fun q J => q = w_cell (nI e) (I (a + 1)) i w ∧ J = I) := by
  obtain ⟨hk, hp, hkw⟩ := hB
  refine mm_ci.of okX1_cell rfl (Nat.le_of_ble_eq_true rfl) (lv := [(0, .ref a), (1, .int i), (2, .int w)]) rfl ?_
  refine mm_iload_n dX1_cell_0 rfl rfl ?_
  refine mm_if_lt 13 dX1_cell_1 (by decide) (fun c_1 => ?_) (fun c_1 => ?_)
  · skip
    have hw1 : w_cell (nI e) (I (a + 1)) i w = -2000000001 := if_pos (Or.inl c_1)
    refine mm_ldc dX1_cell_13 ct_X1_27 ?_
    refine mm_iret dX1_cell_15 rfl ?_
    exact ⟨rfl, _, rfl, hw1.symm, rfl⟩
  · skip
    refine mm_iload_n dX1_cell_4 rfl rfl ?_
    refine mm_iconst 0 dX1_cell_5 rfl ?_
    refine mm_iconst 5 dX1_cell_6 rfl ?_
    refine mm_SNi (N := mX7_within) (as := [_, _, _]) dX1_cell_7 lk_X1_23 okX7_within (by decide) rfl rfl (by decide) c_within (fun r1 J1 hq => ?_)
    obtain ⟨rfl, hJ⟩ := hq
    subst J1
    refine mm_if_ne 16 dX1_cell_10 (by decide) (fun c_10 => ?_) (fun c_10 => ?_)
    · skip
      have hc : 0 ≤ w ∧ w ≤ 5 := Classical.byContradiction fun q => c_10 (if_neg q)
      have hn : ¬ (i < 0 ∨ ¬ (0 ≤ w ∧ w ≤ 5)) := fun q => q.elim c_1 (fun q => q hc)
      obtain ⟨i', hi31, rfl⟩ := nI_of c_1
      obtain ⟨w', hw5, rfl⟩ := nI_of2 (M := 5) (n := 5) rfl (Int32.not_lt.mpr hc.1) hc.2
      refine mm_iload_n dX1_cell_16 rfl rfl ?_
      refine mm_aload_n dX1_cell_17 rfl rfl ?_
      refine mm_getI dX1_cell_18 fl_X1_19 rfl (by assumption) ?_
      refine mm_tope (y := nI e) h1 ?_
      refine mm_icmp_ge 30 dX1_cell_21 (by decide) (fun c_21 => ?_) (fun c_21 => ?_)
      · skip
        have hw1 : w_cell (nI e) (I (a + 1)) (nI i') (nI w') = -2000000004 := by unfold w_cell; rw [if_neg hn, if_neg (Int32.not_lt.mpr c_21)]
        refine mm_ldc dX1_cell_30 ct_X1_28 ?_
        refine mm_iret dX1_cell_32 rfl ?_
        exact ⟨rfl, _, rfl, hw1.symm, rfl⟩
      · skip
        have hlt : i' < e := Nat.not_le.mp fun q => c_21 (nI_le q (by omega))
        have hw1 : w_cell (nI e) (I (a + 1)) (nI i') (nI w') = I (a + 1) (6 * i' + w') := by unfold w_cell; rw [if_neg hn, if_pos (Int32.not_le.mp c_21), nI_clamp (by omega), nI_clamp (by omega)]
        refine mm_iload_n dX1_cell_24 rfl rfl ?_
        refine mm_bipush 12 dX1_cell_25 rfl ?_
        refine mm_icmp_lt 33 dX1_cell_27 (by decide) (fun c_27 => ?_) (fun c_27 => absurd (nI_lt (b := 12) (by omega) (by omega)) c_27)
        refine mm_aload_n dX1_cell_33 rfl rfl ?_
        refine mm_getR dX1_cell_34 fl_X1_9 rfl (by assumption) (by assumption) ?_
        refine mm_iload_n dX1_cell_37 rfl rfl ?_
        refine mm_bipush 6 dX1_cell_38 rfl ?_
        refine mm_imul dX1_cell_40 ?_
        refine mm_iload_n dX1_cell_41 rfl rfl ?_
        refine mm_iadd dX1_cell_42 ?_
        refine mm_tope (y := nI (6 * i' + w')) (by rw [show (6 : Int32) = nI 6 from rfl, pk_mul, nI_add, Nat.mul_comm]) ?_
        refine mm_iald dX1_cell_43 (by assumption) (vp_in_nI (by omega) (by omega)) ?_
        rw [nI_clamp (by omega)]
        refine mm_iret dX1_cell_44 rfl ?_
        exact ⟨rfl, _, rfl, hw1.symm, rfl⟩
    · skip
      have hc : ¬ (0 ≤ w ∧ w ≤ 5) := fun q => by rw [if_pos q] at c_10; exact absurd c_10 (by decide)
      have hw1 : w_cell (nI e) (I (a + 1)) i w = -2000000001 := if_pos (Or.inr hc)
      refine mm_ldc dX1_cell_13 ct_X1_27 ?_
      refine mm_iret dX1_cell_15 rfl ?_
      exact ⟨rfl, _, rfl, hw1.symm, rfl⟩
set_option maxRecDepth 100000 in
set_option maxHeartbeats 4000000 in
theorem c_write {S : mm_S} {I : mm_I} {a e : Nat} {k l b c m f : Int32} (hB : mm_bk S a) (h1 : I a 1 = nI e) (he : e ≤ 12) : mm_cv mX1_write [.ref a, .int k, .int l, .int b, .int c, .int m, .int f] S I (fun J => J = mm_wr (mm_row I (a + 1) 72 (w_book (I (a + 1)) k l b c m f)) a 1 (nI (if e < 12 then e + 1 else 12))) := by
  obtain ⟨hk, hp, hkw⟩ := hB
  have hsh : ∀ i, i ≤ 66 → 6 ≤ 71 - i + 6 := by intro i hi; omega
  refine mm_cv.of okX1_write rfl (Nat.le_of_ble_eq_true rfl) (lv := [(0, .ref a), (1, .int k), (2, .int l), (3, .int b), (4, .int c), (5, .int m), (6, .int f)]) rfl ?_
  -- at index i (from 71 down to 6): the places above i are shifted
  have loop : ∀ (t i : Nat), i = t + 5 → i ≤ 71 → ∀ (I1 : mm_I), (∀ j, j < 72 → I1 (a + 1) j = if i < j then I (a + 1) (j - 6) else I (a + 1) j) → (∀ j, 72 ≤ j → I1 (a + 1) j = I (a + 1) j) → (∀ q, q ≠ a + 1 → I1 q = I q) → mm_Gv mX1_write (fun J => J = mm_wr (mm_row I (a + 1) 72 (w_book (I (a + 1)) k l b c m f)) a 1 (nI (if e < 12 then e + 1 else 12))) 9 [(7, .int (nI i)), (0, .ref a), (1, .int k), (2, .int l), (3, .int b), (4, .int c), (5, .int m), (6, .int f)] [] S S I1 := by
    intro t
    induction t with
    | zero =>
      intro i hi hi2 I1 g1 g2 g3
      have hi5 : i = 5 := by omega
      subst hi5
      refine mm_iload dX1_write_9 rfl ?_
      refine mm_bipush 6 dX1_write_11 rfl ?_
      refine mm_icmp_lt 39 dX1_write_13 (by decide) (fun c_13 => ?_) (fun c_13 => absurd (by decide) c_13)
      refine mm_aload_n dX1_write_39 rfl rfl ?_
      refine mm_getR dX1_write_40 fl_X1_9 rfl (by assumption) (by assumption) ?_
      refine mm_iconst 0 dX1_write_43 rfl ?_
      refine mm_iload_n dX1_write_44 rfl rfl ?_
      refine mm_iast dX1_write_45 (by assumption) (vp_in_nI (n := 0) (by omega) (by omega)) ?_
      refine mm_aload_n dX1_write_46 rfl rfl ?_
      refine mm_getR dX1_write_47 fl_X1_9 rfl (by assumption) (by assumption) ?_
      refine mm_iconst 1 dX1_write_50 rfl ?_
      refine mm_iload_n dX1_write_51 rfl rfl ?_
      refine mm_iast dX1_write_52 (by assumption) (vp_in_nI (n := 1) (by omega) (by omega)) ?_
      refine mm_aload_n dX1_write_53 rfl rfl ?_
      refine mm_getR dX1_write_54 fl_X1_9 rfl (by assumption) (by assumption) ?_
      refine mm_iconst 2 dX1_write_57 rfl ?_
      refine mm_iload_n dX1_write_58 rfl rfl ?_
      refine mm_iast dX1_write_59 (by assumption) (vp_in_nI (n := 2) (by omega) (by omega)) ?_
      refine mm_aload_n dX1_write_60 rfl rfl ?_
      refine mm_getR dX1_write_61 fl_X1_9 rfl (by assumption) (by assumption) ?_
      refine mm_iconst 3 dX1_write_64 rfl ?_
      refine mm_iload dX1_write_65 rfl ?_
      refine mm_iast dX1_write_67 (by assumption) (vp_in_nI (n := 3) (by omega) (by omega)) ?_
      refine mm_aload_n dX1_write_68 rfl rfl ?_
      refine mm_getR dX1_write_69 fl_X1_9 rfl (by assumption) (by assumption) ?_
      refine mm_iconst 4 dX1_write_72 rfl ?_
      refine mm_iload dX1_write_73 rfl ?_
      refine mm_iast dX1_write_75 (by assumption) (vp_in_nI (n := 4) (by omega) (by omega)) ?_
      refine mm_aload_n dX1_write_76 rfl rfl ?_
      refine mm_getR dX1_write_77 fl_X1_9 rfl (by assumption) (by assumption) ?_
      refine mm_iconst 5 dX1_write_80 rfl ?_
      refine mm_iload dX1_write_81 rfl ?_
      refine mm_iast dX1_write_83 (by assumption) (vp_in_nI (n := 5) (by omega) (by omega)) ?_
      refine mm_G.i (I' := mm_row I (a + 1) 72 (w_book (I (a + 1)) k l b c m f)) ?_ ?_
      · funext q j
        rw [show (5 : Int32).toNatClampNeg = 5 from rfl, show (4 : Int32).toNatClampNeg = 4 from rfl, show (3 : Int32).toNatClampNeg = 3 from rfl, show (2 : Int32).toNatClampNeg = 2 from rfl, show (1 : Int32).toNatClampNeg = 1 from rfl, show (0 : Int32).toNatClampNeg = 0 from rfl]
        by_cases hq : q = a + 1
        · subst hq
          by_cases hj : j < 72
          · rw [mm_row_in hj]
            by_cases hj6 : j < 6
            · unfold w_book
              rw [if_pos hj6]
              rcases (show j = 0 ∨ j = 1 ∨ j = 2 ∨ j = 3 ∨ j = 4 ∨ j = 5 by omega) with rfl | rfl | rfl | rfl | rfl | rfl <;> simp [mm_wr, w_six]
            · unfold w_book
              rw [if_neg hj6]
              rw [mm_wr_k (by omega), mm_wr_k (by omega), mm_wr_k (by omega), mm_wr_k (by omega), mm_wr_k (by omega), mm_wr_k (by omega), g1 j hj, if_pos (by omega)]
          · rw [mm_row_out (by omega), mm_wr_k (by omega), mm_wr_k (by omega), mm_wr_k (by omega), mm_wr_k (by omega), mm_wr_k (by omega), mm_wr_k (by omega), g2 j (by omega)]
        · rw [mm_row_ne hq, mm_wr_a hq, mm_wr_a hq, mm_wr_a hq, mm_wr_a hq, mm_wr_a hq, mm_wr_a hq, g3 q hq]
      refine mm_aload_n dX1_write_84 rfl rfl ?_
      refine mm_getI dX1_write_85 fl_X1_19 rfl (by assumption) ?_
      refine mm_tope (y := nI e) (by rw [mm_row_ne (by omega)]; exact h1) ?_
      refine mm_bipush 12 dX1_write_88 rfl ?_
      refine mm_icmp_ge 103 dX1_write_90 (by decide) (fun c_90 => ?_) (fun c_90 => ?_)
      · skip
        have hge : ¬ e < 12 := fun q => absurd c_90 (nI_ge (b := 12) q (by omega))
        have he12 : e = 12 := by omega
        refine mm_vret dX1_write_103 rfl ?_
        first
          | exact ⟨rfl, rfl, by rw [if_pos hlt]⟩
          | exact ⟨rfl, rfl, by
              rw [if_neg hge]
              funext q j
              by_cases hq : q = a ∧ j = 1
              · obtain ⟨rfl, rfl⟩ := hq
                rw [mm_wr_s, mm_row_ne (by omega), h1, he12]
              · unfold mm_wr
                rw [if_neg hq]⟩
      · skip
        have hlt : e < 12 := Nat.not_le.mp fun q => c_90 (nI_le (a := 12) q (by omega))
        refine mm_aload_n dX1_write_93 rfl rfl ?_
        refine mm_dup dX1_write_94 rfl ?_
        refine mm_getI dX1_write_95 fl_X1_19 rfl (by assumption) ?_
        refine mm_tope (y := nI e) (by rw [mm_row_ne (by omega)]; exact h1) ?_
        refine mm_iconst 1 dX1_write_98 rfl ?_
        refine mm_iadd dX1_write_99 ?_
        refine mm_tope (y := nI (e + 1)) (nI_1 e) ?_
        refine mm_putI dX1_write_100 fl_X1_19 rfl rfl (by assumption) ?_
        refine mm_vret dX1_write_103 rfl ?_
        first
          | exact ⟨rfl, rfl, by rw [if_pos hlt]⟩
          | exact ⟨rfl, rfl, by
              rw [if_neg hge]
              funext q j
              by_cases hq : q = a ∧ j = 1
              · obtain ⟨rfl, rfl⟩ := hq
                rw [mm_wr_s, mm_row_ne (by omega), h1, he12]
              · unfold mm_wr
                rw [if_neg hq]⟩
    | succ t ih =>
      intro i hi hi2 I1 g1 g2 g3
      have hin1 : vp_in (nI i) 72 := vp_in_nI (by omega) (by omega)
      have hin2 : vp_in (nI (i - 6)) 72 := vp_in_nI (by omega) (by omega)
      refine mm_iload dX1_write_9 rfl ?_
      refine mm_bipush 6 dX1_write_11 rfl ?_
      refine mm_icmp_lt 39 dX1_write_13 (by decide) (fun c_13 => absurd c_13 (fun q => absurd q (Int32.not_lt.mpr (nI_le (a := 6) (by omega) (by omega))))) (fun c_13 => ?_)
      refine mm_aload_n dX1_write_16 rfl rfl ?_
      refine mm_getR dX1_write_17 fl_X1_9 rfl (by assumption) (by assumption) ?_
      refine mm_iload dX1_write_20 rfl ?_
      refine mm_aload_n dX1_write_22 rfl rfl ?_
      refine mm_getR dX1_write_23 fl_X1_9 rfl (by assumption) (by assumption) ?_
      refine mm_iload dX1_write_26 rfl ?_
      refine mm_bipush 6 dX1_write_28 rfl ?_
      refine mm_isub dX1_write_30 ?_
      refine mm_tope (y := nI (i - 6)) (pk_sub (b := 6) (by omega)) ?_
      refine mm_iald dX1_write_31 (by assumption) (by assumption) ?_
      rw [nI_clamp (by omega)]
      refine mm_iast dX1_write_32 (by assumption) (by assumption) ?_
      rw [nI_clamp (by omega)]
      refine mm_iinc (-1) dX1_write_33 rfl rfl (Nat.le_of_ble_eq_true rfl) ?_
      rw [show nI i + -1 = nI (i - 1) from by rw [← Int32.sub_eq_add_neg]; exact nI_m1 (by omega)]
      refine mm_goto 9 dX1_write_36 (by decide) ?_
      exact mm_G.at (ih (i - 1) (by omega) (by omega) _ (fun j hj => by
                by_cases e1 : j = i
                · subst e1
                  rw [mm_wr_s, g1 (j - 6) (by omega), if_neg (by omega), if_pos (by omega)]
                · rw [mm_wr_k e1, g1 j hj]
                  by_cases e2 : i < j
                  · rw [if_pos e2, if_pos (by omega)]
                  · rw [if_neg e2, if_neg (by omega)]) (fun j hj => by rw [mm_wr_k (by omega)]; exact g2 j hj) (fun q hq => by rw [mm_wr_row hq]; exact g3 q hq)) (mm_s1 rfl (mm_s1 rfl (mm_s1 rfl (mm_s1 rfl (mm_s1 rfl (mm_s1 rfl (mm_s1 rfl (mm_s1 rfl mm_s0))))))))
  refine mm_aload_n dX1_write_0 rfl rfl ?_
  refine mm_getR dX1_write_1 fl_X1_9 rfl (by assumption) (by assumption) ?_
  refine mm_alen (t := 0) dX1_write_4 (by assumption) (by decide) 72 rfl ?_
  refine mm_iconst 1 dX1_write_5 rfl ?_
  refine mm_isub dX1_write_6 ?_
  refine mm_tope (y := nI 71) rfl ?_
  refine mm_istore dX1_write_7 (Nat.le_of_ble_eq_true rfl) ?_
  exact mm_G.at (loop 66 71 rfl (by omega) I (fun j hj => by rw [if_neg (by omega)]) (fun _ _ => rfl) (fun _ _ => rfl)) (mm_s1 rfl (mm_s1 rfl (mm_s1 rfl (mm_s1 rfl (mm_s1 rfl (mm_s1 rfl (mm_s1 rfl (mm_s1 rfl mm_s0))))))))
end
section
/-! THE SPEC: the mathematical state is the reference's array s : Nat → Int32 -/
def sv (s : Nat → Int32) (k : Nat) : Nat := (s k).toNatClampNeg
theorem sv_of {s : Nat → Int32} {k n : Nat} (h : s k = nI n) (hn : n < 2 ^ 31) : sv s k = n := by
  unfold sv
  rw [h, nI_clamp hn]
/-- what a row of ints keeps when its empty places go: how many, and which -/
def lvN (w : Nat → Nat) : Nat → Nat
  | 0 => 0
  | k + 1 => if 0 < w k then lvN w k + 1 else lvN w k
def lvF (w : Nat → Nat) : Nat → Nat → Nat
  | 0 => fun _ => 0
  | k + 1 => fun j => if 0 < w k ∧ j = lvN w k then w k else lvF w k j
theorem lvN_le {w : Nat → Nat} : ∀ k, lvN w k ≤ k
  | 0 => Nat.le_refl _
  | k + 1 => by
    have h := lvN_le (w := w) k
    unfold lvN
    split <;> omega
theorem lvN_pos {w : Nat → Nat} : ∀ k, (∀ j, j < k → 0 < w j) → lvN w k = k
  | 0, _ => rfl
  | k + 1, h => by
    unfold lvN
    rw [if_pos (h k (Nat.lt_succ_self k)), lvN_pos k (fun j hj => h j (Nat.lt_succ_of_lt hj))]
theorem lvF_pos {w : Nat → Nat} : ∀ k, (∀ j, j < k → 0 < w j) → ∀ j, j < k → lvF w k j = w j
  | 0, _, j, hj => absurd hj (Nat.not_lt_zero j)
  | k + 1, h, j, hj => by
    show (if _ then _ else _) = _
    rw [lvN_pos k (fun j hj => h j (Nat.lt_succ_of_lt hj))]
    by_cases e : j = k
    · subst e
      rw [if_pos ⟨h j (Nat.lt_succ_self j), rfl⟩]
    · rw [if_neg (fun q => e q.2)]
      exact lvF_pos k (fun j hj => h j (Nat.lt_succ_of_lt hj)) j (by omega)
/-- one place b is empty: it goes -/
theorem lvN_del {w : Nat → Nat} {b : Nat} (hb : w b = 0) : ∀ k, (∀ j, j < k → j ≠ b → 0 < w j) → b < k → lvN w k = k - 1
  | 0, _, h => absurd h (Nat.not_lt_zero b)
  | k + 1, h, hk => by
    unfold lvN
    by_cases e : b = k
    · subst e
      rw [if_neg (by omega), lvN_pos b (fun j hj => h j (by omega) (by omega))]
      rfl
    · rw [if_pos (h k (Nat.lt_succ_self k) (fun q => e q.symm)), lvN_del hb k (fun j hj hne => h j (Nat.lt_succ_of_lt hj) hne) (by omega)]
      omega
theorem lvF_del {w : Nat → Nat} {b : Nat} (hb : w b = 0) : ∀ k, (∀ j, j < k → j ≠ b → 0 < w j) → b < k → ∀ j, j < k - 1 → lvF w k j = w_del w b j
  | 0, _, h, _, _ => absurd h (Nat.not_lt_zero b)
  | k + 1, h, hk, j, hj => by
    show (if _ then _ else _) = _
    by_cases e : b = k
    · subst e
      rw [if_neg (fun q => by omega)]
      rw [lvF_pos b (fun j hj => h j (by omega) (by omega)) j (by omega)]
      unfold w_del
      rw [if_pos (by omega)]
    · have h9 : ∀ j, j < k → j ≠ b → 0 < w j := fun j hj hne => h j (Nat.lt_succ_of_lt hj) hne
      rw [lvN_del hb k h9 (by omega)]
      by_cases e2 : j = k - 1
      · subst e2
        rw [if_pos ⟨h k (Nat.lt_succ_self k) (fun q => e q.symm), rfl⟩]
        unfold w_del
        rw [if_neg (by omega), show k - 1 + 1 = k by omega]
      · rw [if_neg (fun q => e2 q.2)]
        exact lvF_del hb k h9 (by omega) j (by omega)
/-- a full barrel is passed by -/
theorem w_top_full {f x n r : Nat} {w : Nat → Nat} (hx : x + 1 < n) (ho : wv_ok n r w) (hw : ¬ w x < 2250) : w_top (f + 1) x n w = w_top f (x + 1) n w := by
  obtain ⟨h1, h2, h3, h4, h5⟩ := ho
  have a1 := h3 x
  have hl := h4 (n - 1) (by omega)
  have hby : w_by x n w = 0 := by unfold w_by; split <;> omega
  have hp : w_pour x n w = w := by
    funext k
    unfold w_pour
    rw [hby]
    split
    · rename_i e; rw [e]; rfl
    · split
      · rename_i e; rw [e]; rfl
      · rfl
  show (if _ then _ else _) = _
  rw [if_pos hx, hp, if_neg hw, if_neg (by omega)]
theorem w_top_end {f x n : Nat} {w : Nat → Nat} (hx : n ≤ x + 1) : w_top f x n w = (n, w) := by
  cases f with
  | zero => rfl
  | succ f =>
    show (if _ then _ else _) = _
    rw [if_neg (by omega)]
/-- barrels from x on to k are full: passed by, all of them -/
theorem w_top_skip {n r : Nat} {w : Nat → Nat} (ho : wv_ok n r w) : ∀ (d f x : Nat), (∀ j, x ≤ j → j < x + d → ¬ w j < 2250) → x + d < n → w_top (f + d) x n w = w_top f (x + d) n w
  | 0, f, x, _, _ => rfl
  | d + 1, f, x, h, hn => by
    rw [show f + (d + 1) = (f + d) + 1 by omega, w_top_full (by omega) ho (h x (Nat.le_refl x) (by omega)), w_top_skip ho d f (x + 1) (fun j h1 h2 => h j (by omega) (by omega)) (by omega), show x + 1 + d = x + (d + 1) by omega]
theorem w_top_none {n r : Nat} {w : Nat → Nat} (ho : wv_ok n r w) : ∀ (f x : Nat), (∀ j, x ≤ j → j + 1 < n → ¬ w j < 2250) → w_top f x n w = (n, w)
  | 0, _, _ => rfl
  | f + 1, x, h => by
    rcases Nat.lt_or_ge (x + 1) n with h1 | h1
    · rw [w_top_full h1 ho (h x (Nat.le_refl x) h1)]
      exact w_top_none ho f (x + 1) (fun j h2 h3 => h j (by omega) h3)
    · exact w_top_end h1
/-- a lot's wine in the state -/
def sw (s : Nat → Int32) (l : Nat) : Nat → Nat := fun k => if k < sv s (9 + 20 * l) then sv s (17 + 20 * l + k) else 0
def hsum (s : Nat → Int32) (l : Nat) : Nat := ws_sum (fun b => sv s (136 + 18 * b + 3 * l)) 6
def gsum (s : Nat → Int32) (l : Nat) : Nat := ws_sum (fun b => sv s (138 + 18 * b + 3 * l)) 6
theorem is_sum_nI {f : Nat → Int32} {g : Nat → Nat} : ∀ n, (∀ k, k < n → f k = nI (g k)) → is_sum f n = nI (ws_sum g n)
  | 0, _ => rfl
  | n + 1, h => by
    show is_sum f n + f n = nI (ws_sum g n + g n)
    rw [is_sum_nI n (fun k hk => h k (Nat.lt_succ_of_lt hk)), h n (Nat.lt_succ_self n), nI_add]
/-- what a lot's places hold -/
def lot_inv (s : Nat → Int32) (l : Nat) : Prop :=
  (∀ f, f < 8 → s (9 + 20 * l + f) = nI (sv s (9 + 20 * l + f))) ∧
  wv_ok (sv s (9 + 20 * l)) (sv s (10 + 20 * l)) (sw s l) ∧ (∀ k, k < sv s (9 + 20 * l) → s (17 + 20 * l + k) = nI (sv s (17 + 20 * l + k))) ∧
  (sv s (11 + 20 * l) ≤ 100 * sv s (12 + 20 * l) ∧ 10 * sv s (12 + 20 * l) + ws_sum (sw s l) (sv s (9 + 20 * l)) ≤ 27000) ∧
  (sv s (13 + 20 * l) ≤ 1 ∧ (sv s (13 + 20 * l) = 1 → sv s (9 + 20 * l) = 0) ∧ (sv s (13 + 20 * l) = 0 → sv s (15 + 20 * l) = 0)) ∧
  (sv s (14 + 20 * l) + sv s (16 + 20 * l) = sv s (15 + 20 * l) ∧ sv s (15 + 20 * l) ≤ 300 ∧ sv s (16 + 20 * l) = gsum s l) ∧
  (hsum s l ≤ 300 ∧ (sv s (13 + 20 * l) = 1 → hsum s l ≤ sv s (14 + 20 * l))) ∧
  ∀ b, b < 6 → (∀ f, f < 3 → s (136 + 18 * b + 3 * l + f) = nI (sv s (136 + 18 * b + 3 * l + f))) ∧ sv s (137 + 18 * b + 3 * l) ≤ 999 * sv s (136 + 18 * b + 3 * l)
/-- the invariant -/
def Inv (s : Nat → Int32) : Prop :=
  ((s 0 = nI (sv s 0) ∧ sv s 0 ≤ 6) ∧ (s 1 = nI (sv s 1) ∧ sv s 1 ≤ 6) ∧ (s 2 = nI (sv s 2) ∧ sv s 2 ≤ 999) ∧ (s 6 = nI (sv s 6) ∧ sv s 6 ≤ 12) ∧ (s 7 = nI (sv s 7) ∧ sv s 7 ≤ 100) ∧ (s 8 = nI (sv s 8) ∧ sv s 8 ≤ 36)) ∧
  (∀ l, l < 6 → lot_inv s l) ∧
  (∀ l, l < 6 → sv s 0 ≤ l → (∀ f, f < 8 → sv s (9 + 20 * l + f) = 0) ∧ ∀ b, b < 6 → ∀ f, f < 3 → sv s (136 + 18 * b + 3 * l + f) = 0) ∧
  (∀ b, b < 6 → sv s 1 ≤ b → s (129 + b) = 0 ∧ ∀ l, l < 6 → ∀ f, f < 3 → sv s (136 + 18 * b + 3 * l + f) = 0) ∧
  s 4 = nI (ws_sum (fun l => sv s (16 + 20 * l)) 6)
/-- the estate at e is as s says -/
def lot_at (I : mm_I) (a : Nat) (s : Nat → Int32) (l : Nat) : Prop :=
  wv_at I (a + 1) (sv s (9 + 20 * l)) (sv s (10 + 20 * l)) (sw s l) ∧
  (∀ b, b < 6 → I (a + 3) b = s (136 + 18 * b + 3 * l) ∧ I (a + 4) b = s (137 + 18 * b + 3 * l) ∧ I (a + 5) b = s (138 + 18 * b + 3 * l)) ∧
  I a 4 = s (13 + 20 * l) ∧ I a 5 = s (15 + 20 * l) ∧ I a 6 = s (11 + 20 * l) ∧ I a 7 = s (12 + 20 * l)
def est_at (I : mm_I) (e : Nat) (s : Nat → Int32) : Prop :=
  (I e 4 = s 0 ∧ I e 5 = s 1 ∧ I e 6 = s 135 ∧ I e 7 = s 7 ∧ I e 8 = s 8 ∧ I e 9 = s 2 ∧ I e 10 = s 3 ∧ I e 11 = s 5) ∧
  (∀ b, b < 6 → I (e + 2) b = s (129 + b)) ∧ I (e + 3) 1 = s 6 ∧ (∀ k, k < 72 → I (e + 3 + 1) k = s (244 + k)) ∧
  ∀ l, l < 6 → lot_at I (e + 7 + 6 * l) s l
def mm_est (S : mm_S) (e : Nat) : Prop :=
  (S.2.1 e).1 = 2 ∧ S.2.2 e 0 = some (e + 1) ∧ S.2.2 e 1 = some (e + 2) ∧ S.2.2 e 2 = some (e + 3) ∧ S.2.2 e 3 = some (e + 5) ∧
  S.2.1 (e + 1) = (10, 6) ∧ S.2.1 (e + 2) = (9, 6) ∧ mm_bk S (e + 3) ∧ mm_bar S (e + 5) ∧ ∀ l, l < 6 → S.2.2 (e + 1) l = some (e + 7 + 6 * l) ∧ mm_lot S (e + 7 + 6 * l)
def mm_ref (S : mm_S) (m : Nat) : Prop :=
  (S.2.1 m).1 = 8 ∧ S.2.2 m 0 = some (m + 1) ∧ S.2.2 m 1 = some (m + 2) ∧ S.2.2 m 2 = some (m + 3) ∧ S.2.2 m 5 = some (m + 4) ∧ S.2.2 m 7 = some (m + 5) ∧ S.2.2 m 15 = some (m + 6) ∧
  S.2.1 (m + 1) = (9, 316) ∧ S.2.1 (m + 2) = (9, 1264) ∧ S.2.1 (m + 3) = (9, 316) ∧ S.2.1 (m + 4) = (9, 60) ∧ S.2.1 (m + 5) = (9, 12) ∧ S.2.1 (m + 6) = (9, 4)
end
