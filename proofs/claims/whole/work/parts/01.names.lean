/-! PART A of the skeleton, and the printed names: starting texts -/
-- ===== PART A: goes FIRST, ahead of the names: the tables' words, and 'selects' of the private methods out of them =====
/-- a private method of a class that the tables say can be made, by its rows of tables_1 -/
def lw_okq (q : MethodName × Nat) : Prop := (q.1.cls ≠ "java/lang/invoke/MethodHandle" ∧ q.1.cls ≠ "java/lang/invoke/VarHandle") ∧ Cond.instantiable q.1.cls q.2 ∈ tables_1 ∧ Cond.privateMethod q.1 ∈ tables_1 ∧ Cond.instanceMethod q.1 ∈ tables_1
theorem lw_p0 : lw_okq (⟨"BranchBets", "isOracle", "(I)Z"⟩, 4) := ⟨⟨by decide +kernel, by decide +kernel⟩, List.mem_of_getElem? (i := 15) (by decide +kernel), List.mem_of_getElem? (i := 275) (by decide +kernel), List.mem_of_getElem? (i := 276) (by decide +kernel)⟩
theorem lw_p1 : lw_okq (⟨"BranchBets", "purseBehind", "(IIII)I"⟩, 4) := ⟨⟨by decide +kernel, by decide +kernel⟩, List.mem_of_getElem? (i := 15) (by decide +kernel), List.mem_of_getElem? (i := 478) (by decide +kernel), List.mem_of_getElem? (i := 479) (by decide +kernel)⟩
theorem lw_p2 : lw_okq (⟨"BranchBets", "doOrderRead", "()I"⟩, 4) := ⟨⟨by decide +kernel, by decide +kernel⟩, List.mem_of_getElem? (i := 15) (by decide +kernel), List.mem_of_getElem? (i := 622) (by decide +kernel), List.mem_of_getElem? (i := 623) (by decide +kernel)⟩
theorem lw_p3 : lw_okq (⟨"BranchBetsModel", "record", "()V"⟩, 17) := ⟨⟨by decide +kernel, by decide +kernel⟩, List.mem_of_getElem? (i := 629) (by decide +kernel), List.mem_of_getElem? (i := 698) (by decide +kernel), List.mem_of_getElem? (i := 699) (by decide +kernel)⟩
theorem lw_p4 : lw_okq (⟨"BranchBetsModel", "setPart", "(III)V"⟩, 17) := ⟨⟨by decide +kernel, by decide +kernel⟩, List.mem_of_getElem? (i := 629) (by decide +kernel), List.mem_of_getElem? (i := 710) (by decide +kernel), List.mem_of_getElem? (i := 711) (by decide +kernel)⟩
theorem lw_p5 : lw_okq (⟨"BranchBetsModel", "isOracle", "(I)Z"⟩, 17) := ⟨⟨by decide +kernel, by decide +kernel⟩, List.mem_of_getElem? (i := 629) (by decide +kernel), List.mem_of_getElem? (i := 718) (by decide +kernel), List.mem_of_getElem? (i := 719) (by decide +kernel)⟩
theorem lw_p6 : lw_okq (⟨"BranchBetsModel", "part", "(II)I"⟩, 17) := ⟨⟨by decide +kernel, by decide +kernel⟩, List.mem_of_getElem? (i := 629) (by decide +kernel), List.mem_of_getElem? (i := 722) (by decide +kernel), List.mem_of_getElem? (i := 723) (by decide +kernel)⟩
theorem lw_p7 : lw_okq (⟨"BranchBetsModel", "hasTable", "(I)Z"⟩, 17) := ⟨⟨by decide +kernel, by decide +kernel⟩, List.mem_of_getElem? (i := 629) (by decide +kernel), List.mem_of_getElem? (i := 726) (by decide +kernel), List.mem_of_getElem? (i := 727) (by decide +kernel)⟩
theorem lw_p8 : lw_okq (⟨"BranchBetsModel", "hasSeat", "(I)Z"⟩, 17) := ⟨⟨by decide +kernel, by decide +kernel⟩, List.mem_of_getElem? (i := 629) (by decide +kernel), List.mem_of_getElem? (i := 730) (by decide +kernel), List.mem_of_getElem? (i := 731) (by decide +kernel)⟩
theorem lw_p9 : lw_okq (⟨"BranchBetsModel", "sitting", "(I)I"⟩, 17) := ⟨⟨by decide +kernel, by decide +kernel⟩, List.mem_of_getElem? (i := 629) (by decide +kernel), List.mem_of_getElem? (i := 735) (by decide +kernel), List.mem_of_getElem? (i := 736) (by decide +kernel)⟩
theorem lw_p10 : lw_okq (⟨"BranchBetsModel", "addPart", "(III)V"⟩, 17) := ⟨⟨by decide +kernel, by decide +kernel⟩, List.mem_of_getElem? (i := 629) (by decide +kernel), List.mem_of_getElem? (i := 748) (by decide +kernel), List.mem_of_getElem? (i := 749) (by decide +kernel)⟩
theorem lw_p11 : lw_okq (⟨"BranchBetsModel", "comes", "(II)I"⟩, 17) := ⟨⟨by decide +kernel, by decide +kernel⟩, List.mem_of_getElem? (i := 629) (by decide +kernel), List.mem_of_getElem? (i := 766) (by decide +kernel), List.mem_of_getElem? (i := 767) (by decide +kernel)⟩
theorem lw_p12 : lw_okq (⟨"BranchBetsModel", "isIn", "(I)Z"⟩, 17) := ⟨⟨by decide +kernel, by decide +kernel⟩, List.mem_of_getElem? (i := 629) (by decide +kernel), List.mem_of_getElem? (i := 770) (by decide +kernel), List.mem_of_getElem? (i := 771) (by decide +kernel)⟩
theorem lw_p13 : lw_okq (⟨"BranchBetsModel", "wordOf", "(II)I"⟩, 17) := ⟨⟨by decide +kernel, by decide +kernel⟩, List.mem_of_getElem? (i := 629) (by decide +kernel), List.mem_of_getElem? (i := 774) (by decide +kernel), List.mem_of_getElem? (i := 775) (by decide +kernel)⟩
theorem lw_p14 : lw_okq (⟨"BranchBetsModel", "plainWord", "(II)I"⟩, 17) := ⟨⟨by decide +kernel, by decide +kernel⟩, List.mem_of_getElem? (i := 629) (by decide +kernel), List.mem_of_getElem? (i := 778) (by decide +kernel), List.mem_of_getElem? (i := 779) (by decide +kernel)⟩
theorem lw_p15 : lw_okq (⟨"BranchBetsModel", "counterOf", "(II)I"⟩, 17) := ⟨⟨by decide +kernel, by decide +kernel⟩, List.mem_of_getElem? (i := 629) (by decide +kernel), List.mem_of_getElem? (i := 782) (by decide +kernel), List.mem_of_getElem? (i := 783) (by decide +kernel)⟩
def lw_privs_1 : List (MethodName × Nat) := [(⟨"BranchBets", "isOracle", "(I)Z"⟩, 4), (⟨"BranchBets", "purseBehind", "(IIII)I"⟩, 4), (⟨"BranchBets", "doOrderRead", "()I"⟩, 4), (⟨"BranchBetsModel", "record", "()V"⟩, 17), (⟨"BranchBetsModel", "setPart", "(III)V"⟩, 17), (⟨"BranchBetsModel", "isOracle", "(I)Z"⟩, 17), (⟨"BranchBetsModel", "part", "(II)I"⟩, 17), (⟨"BranchBetsModel", "hasTable", "(I)Z"⟩, 17), (⟨"BranchBetsModel", "hasSeat", "(I)Z"⟩, 17), (⟨"BranchBetsModel", "sitting", "(I)I"⟩, 17), (⟨"BranchBetsModel", "addPart", "(III)V"⟩, 17), (⟨"BranchBetsModel", "comes", "(II)I"⟩, 17), (⟨"BranchBetsModel", "isIn", "(I)Z"⟩, 17), (⟨"BranchBetsModel", "wordOf", "(II)I"⟩, 17), (⟨"BranchBetsModel", "plainWord", "(II)I"⟩, 17), (⟨"BranchBetsModel", "counterOf", "(II)I"⟩, 17)]
theorem lw_r1 : ∀ q ∈ lw_privs_1, lw_okq q := List.forall_mem_cons.mpr ⟨lw_p0, List.forall_mem_cons.mpr ⟨lw_p1, List.forall_mem_cons.mpr ⟨lw_p2, List.forall_mem_cons.mpr ⟨lw_p3, List.forall_mem_cons.mpr ⟨lw_p4, List.forall_mem_cons.mpr ⟨lw_p5, List.forall_mem_cons.mpr ⟨lw_p6, List.forall_mem_cons.mpr ⟨lw_p7, List.forall_mem_cons.mpr ⟨lw_p8, List.forall_mem_cons.mpr ⟨lw_p9, List.forall_mem_cons.mpr ⟨lw_p10, List.forall_mem_cons.mpr ⟨lw_p11, List.forall_mem_cons.mpr ⟨lw_p12, List.forall_mem_cons.mpr ⟨lw_p13, List.forall_mem_cons.mpr ⟨lw_p14, List.forall_mem_cons.mpr ⟨lw_p15, fun _ h => absurd h List.not_mem_nil⟩⟩⟩⟩⟩⟩⟩⟩⟩⟩⟩⟩⟩⟩⟩⟩
theorem lw_p16 : lw_okq (⟨"BranchBetsModel", "indexOf", "(II)I"⟩, 17) := ⟨⟨by decide +kernel, by decide +kernel⟩, List.mem_of_getElem? (i := 629) (by decide +kernel), List.mem_of_getElem? (i := 786) (by decide +kernel), List.mem_of_getElem? (i := 787) (by decide +kernel)⟩
theorem lw_p17 : lw_okq (⟨"BranchBetsModel", "sizeOf", "(I)I"⟩, 17) := ⟨⟨by decide +kernel, by decide +kernel⟩, List.mem_of_getElem? (i := 629) (by decide +kernel), List.mem_of_getElem? (i := 790) (by decide +kernel), List.mem_of_getElem? (i := 791) (by decide +kernel)⟩
theorem lw_p18 : lw_okq (⟨"BranchBetsModel", "stakeOf", "(II)I"⟩, 17) := ⟨⟨by decide +kernel, by decide +kernel⟩, List.mem_of_getElem? (i := 629) (by decide +kernel), List.mem_of_getElem? (i := 794) (by decide +kernel), List.mem_of_getElem? (i := 795) (by decide +kernel)⟩
theorem lw_p19 : lw_okq (⟨"BranchBetsModel", "bets", "(I)I"⟩, 17) := ⟨⟨by decide +kernel, by decide +kernel⟩, List.mem_of_getElem? (i := 629) (by decide +kernel), List.mem_of_getElem? (i := 798) (by decide +kernel), List.mem_of_getElem? (i := 799) (by decide +kernel)⟩
theorem lw_p20 : lw_okq (⟨"BranchBetsModel", "paysBack", "(II)V"⟩, 17) := ⟨⟨by decide +kernel, by decide +kernel⟩, List.mem_of_getElem? (i := 629) (by decide +kernel), List.mem_of_getElem? (i := 802) (by decide +kernel), List.mem_of_getElem? (i := 803) (by decide +kernel)⟩
theorem lw_p21 : lw_okq (⟨"BranchBetsModel", "loanPart", "(II)I"⟩, 17) := ⟨⟨by decide +kernel, by decide +kernel⟩, List.mem_of_getElem? (i := 629) (by decide +kernel), List.mem_of_getElem? (i := 806) (by decide +kernel), List.mem_of_getElem? (i := 807) (by decide +kernel)⟩
theorem lw_p22 : lw_okq (⟨"BranchBetsModel", "learns", "(III)V"⟩, 17) := ⟨⟨by decide +kernel, by decide +kernel⟩, List.mem_of_getElem? (i := 629) (by decide +kernel), List.mem_of_getElem? (i := 811) (by decide +kernel), List.mem_of_getElem? (i := 812) (by decide +kernel)⟩
theorem lw_p23 : lw_okq (⟨"BranchBetsModel", "owes", "(II)I"⟩, 17) := ⟨⟨by decide +kernel, by decide +kernel⟩, List.mem_of_getElem? (i := 629) (by decide +kernel), List.mem_of_getElem? (i := 819) (by decide +kernel), List.mem_of_getElem? (i := 820) (by decide +kernel)⟩
theorem lw_p24 : lw_okq (⟨"BranchBetsModel", "richer", "(I)I"⟩, 17) := ⟨⟨by decide +kernel, by decide +kernel⟩, List.mem_of_getElem? (i := 629) (by decide +kernel), List.mem_of_getElem? (i := 849) (by decide +kernel), List.mem_of_getElem? (i := 850) (by decide +kernel)⟩
theorem lw_p25 : lw_okq (⟨"BranchBetsModel", "hasFault", "()Z"⟩, 17) := ⟨⟨by decide +kernel, by decide +kernel⟩, List.mem_of_getElem? (i := 629) (by decide +kernel), List.mem_of_getElem? (i := 897) (by decide +kernel), List.mem_of_getElem? (i := 898) (by decide +kernel)⟩
theorem lw_p26 : lw_okq (⟨"BranchBetsModel", "readsOrder", "()Z"⟩, 17) := ⟨⟨by decide +kernel, by decide +kernel⟩, List.mem_of_getElem? (i := 629) (by decide +kernel), List.mem_of_getElem? (i := 901) (by decide +kernel), List.mem_of_getElem? (i := 902) (by decide +kernel)⟩
theorem lw_p27 : lw_okq (⟨"BranchBetsModel", "isOfForm", "()Z"⟩, 17) := ⟨⟨by decide +kernel, by decide +kernel⟩, List.mem_of_getElem? (i := 629) (by decide +kernel), List.mem_of_getElem? (i := 905) (by decide +kernel), List.mem_of_getElem? (i := 906) (by decide +kernel)⟩
theorem lw_p28 : lw_okq (⟨"BranchBetsModel", "isLetter", "(I)Z"⟩, 17) := ⟨⟨by decide +kernel, by decide +kernel⟩, List.mem_of_getElem? (i := 629) (by decide +kernel), List.mem_of_getElem? (i := 909) (by decide +kernel), List.mem_of_getElem? (i := 910) (by decide +kernel)⟩
theorem lw_p29 : lw_okq (⟨"BranchBetsModel", "character", "(I)I"⟩, 17) := ⟨⟨by decide +kernel, by decide +kernel⟩, List.mem_of_getElem? (i := 629) (by decide +kernel), List.mem_of_getElem? (i := 913) (by decide +kernel), List.mem_of_getElem? (i := 914) (by decide +kernel)⟩
theorem lw_p30 : lw_okq (⟨"BranchBetsModel", "orderOf", "(I)I"⟩, 17) := ⟨⟨by decide +kernel, by decide +kernel⟩, List.mem_of_getElem? (i := 629) (by decide +kernel), List.mem_of_getElem? (i := 917) (by decide +kernel), List.mem_of_getElem? (i := 918) (by decide +kernel)⟩
theorem lw_p31 : lw_okq (⟨"BranchBetsModel", "isWord", "(IIIII)Z"⟩, 17) := ⟨⟨by decide +kernel, by decide +kernel⟩, List.mem_of_getElem? (i := 629) (by decide +kernel), List.mem_of_getElem? (i := 921) (by decide +kernel), List.mem_of_getElem? (i := 922) (by decide +kernel)⟩
def lw_privs_2 : List (MethodName × Nat) := [(⟨"BranchBetsModel", "indexOf", "(II)I"⟩, 17), (⟨"BranchBetsModel", "sizeOf", "(I)I"⟩, 17), (⟨"BranchBetsModel", "stakeOf", "(II)I"⟩, 17), (⟨"BranchBetsModel", "bets", "(I)I"⟩, 17), (⟨"BranchBetsModel", "paysBack", "(II)V"⟩, 17), (⟨"BranchBetsModel", "loanPart", "(II)I"⟩, 17), (⟨"BranchBetsModel", "learns", "(III)V"⟩, 17), (⟨"BranchBetsModel", "owes", "(II)I"⟩, 17), (⟨"BranchBetsModel", "richer", "(I)I"⟩, 17), (⟨"BranchBetsModel", "hasFault", "()Z"⟩, 17), (⟨"BranchBetsModel", "readsOrder", "()Z"⟩, 17), (⟨"BranchBetsModel", "isOfForm", "()Z"⟩, 17), (⟨"BranchBetsModel", "isLetter", "(I)Z"⟩, 17), (⟨"BranchBetsModel", "character", "(I)I"⟩, 17), (⟨"BranchBetsModel", "orderOf", "(I)I"⟩, 17), (⟨"BranchBetsModel", "isWord", "(IIIII)Z"⟩, 17)]
theorem lw_r2 : ∀ q ∈ lw_privs_2, lw_okq q := List.forall_mem_cons.mpr ⟨lw_p16, List.forall_mem_cons.mpr ⟨lw_p17, List.forall_mem_cons.mpr ⟨lw_p18, List.forall_mem_cons.mpr ⟨lw_p19, List.forall_mem_cons.mpr ⟨lw_p20, List.forall_mem_cons.mpr ⟨lw_p21, List.forall_mem_cons.mpr ⟨lw_p22, List.forall_mem_cons.mpr ⟨lw_p23, List.forall_mem_cons.mpr ⟨lw_p24, List.forall_mem_cons.mpr ⟨lw_p25, List.forall_mem_cons.mpr ⟨lw_p26, List.forall_mem_cons.mpr ⟨lw_p27, List.forall_mem_cons.mpr ⟨lw_p28, List.forall_mem_cons.mpr ⟨lw_p29, List.forall_mem_cons.mpr ⟨lw_p30, List.forall_mem_cons.mpr ⟨lw_p31, fun _ h => absurd h List.not_mem_nil⟩⟩⟩⟩⟩⟩⟩⟩⟩⟩⟩⟩⟩⟩⟩⟩
theorem lw_p32 : lw_okq (⟨"BranchBetsModel", "number", "()I"⟩, 17) := ⟨⟨by decide +kernel, by decide +kernel⟩, List.mem_of_getElem? (i := 629) (by decide +kernel), List.mem_of_getElem? (i := 925) (by decide +kernel), List.mem_of_getElem? (i := 926) (by decide +kernel)⟩
theorem lw_p33 : lw_okq (⟨"BranchBetsModel", "does", "()I"⟩, 17) := ⟨⟨by decide +kernel, by decide +kernel⟩, List.mem_of_getElem? (i := 629) (by decide +kernel), List.mem_of_getElem? (i := 933) (by decide +kernel), List.mem_of_getElem? (i := 934) (by decide +kernel)⟩
def lw_privs_3 : List (MethodName × Nat) := [(⟨"BranchBetsModel", "number", "()I"⟩, 17), (⟨"BranchBetsModel", "does", "()I"⟩, 17)]
theorem lw_r3 : ∀ q ∈ lw_privs_3, lw_okq q := List.forall_mem_cons.mpr ⟨lw_p32, List.forall_mem_cons.mpr ⟨lw_p33, fun _ h => absurd h List.not_mem_nil⟩⟩
def lw_privs : List (MethodName × Nat) := lw_privs_1 ++ (lw_privs_2 ++ (lw_privs_3))
def lw_tbl : List Cond := k2_sels lw_privs ++ tables_1
theorem lw_privs_ok : ∀ q ∈ lw_privs, lw_okq q := by
  show ∀ q ∈ lw_privs_1 ++ (lw_privs_2 ++ (lw_privs_3)), lw_okq q
  exact List.forall_mem_append.mpr ⟨lw_r1, List.forall_mem_append.mpr ⟨lw_r2, lw_r3⟩⟩
/-- the streams that the claim lets the run draw from -/
abbrev lw_cs : List Choice := [Jvm.Choice.named "NaN.bits"]
theorem lw_bits : nanBits ∈ lw_cs := by first | decide | exact List.mem_cons_self | simp [lw_cs, nanBits]
def RX0 : String := "BranchBets$Loan"
def TX0 : u_T := fun k => match k with
  | 0 => ("BranchBets$Loan", "creditor", "I", false)
  | 1 => ("BranchBets$Loan", "debtor", "I", false)
  | _ => ("BranchBets$Loan", "owed", "I", false)
def tyX0 : Nat → FieldType := fun k => match k with
  | 0 => .int
  | 1 => .int
  | _ => .int
abbrev wsX00 : List Cond := u_ws RX0 TX0 3
theorem nmX0 : ∀ a, a < 3 → ∀ b, b < 3 → a ≠ b → (TX0 a).2.1 ≠ (TX0 b).2.1 := by decide +kernel
theorem tyX0_ok : ∀ k, k < 3 → parseFieldDescriptor (TX0 k).2.2.1 = some (tyX0 k) := by decide +kernel
abbrev cX0_init : ByteArray := prog_2_method_1_code
def yX0_init : MethodName := ⟨RX0, "<init>", "()V"⟩
abbrev cX0_copyFrom : ByteArray := prog_2_method_2_code
def yX0_copyFrom : MethodName := ⟨RX0, "copyFrom", "(LBranchBets$Loan;)V"⟩
def RX1 : String := "BranchBets$Oracle"
def TX1 : u_T := fun k => match k with
  | 0 => ("BranchBets$Oracle", "kind", "I", false)
  | 1 => ("BranchBets$Oracle", "number", "I", false)
  | 2 => ("BranchBets$Oracle", "purse", "I", false)
  | 3 => ("BranchBets$Oracle", "booth", "I", false)
  | 4 => ("BranchBets$Oracle", "place", "I", false)
  | 5 => ("BranchBets$Oracle", "right", "I", false)
  | 6 => ("BranchBets$Oracle", "wrong", "I", false)
  | 7 => ("BranchBets$Oracle", "record", "I", false)
  | 8 => ("BranchBets$Oracle", "ruins", "I", false)
  | 9 => ("BranchBets$Oracle", "said", "I", false)
  | 10 => ("BranchBets$Oracle", "staked", "I", false)
  | _ => ("BranchBets$Oracle", "table", "[I", true)
def tyX1 : Nat → FieldType := fun k => match k with
  | 0 => .int
  | 1 => .int
  | 2 => .int
  | 3 => .int
  | 4 => .int
  | 5 => .int
  | 6 => .int
  | 7 => .int
  | 8 => .int
  | 9 => .int
  | 10 => .int
  | _ => .array .int
abbrev wsX10 : List Cond := u_ws RX1 TX1 12
theorem nmX1 : ∀ a, a < 12 → ∀ b, b < 12 → a ≠ b → (TX1 a).2.1 ≠ (TX1 b).2.1 := by decide +kernel
theorem tyX1_ok : ∀ k, k < 12 → parseFieldDescriptor (TX1 k).2.2.1 = some (tyX1 k) := by decide +kernel
abbrev cX1_init : ByteArray := prog_3_method_1_code
def yX1_init : MethodName := ⟨RX1, "<init>", "()V"⟩
abbrev cX1_begin : ByteArray := prog_3_method_2_code
def yX1_begin : MethodName := ⟨RX1, "begin", "(III)V"⟩
abbrev cX1_copyFrom : ByteArray := prog_3_method_3_code
def yX1_copyFrom : MethodName := ⟨RX1, "copyFrom", "(LBranchBets$Oracle;)V"⟩
abbrev cX1_hasSeat : ByteArray := prog_3_method_4_code
def yX1_hasSeat : MethodName := ⟨RX1, "hasSeat", "()Z"⟩
abbrev cX1_isRuined : ByteArray := prog_3_method_5_code
def yX1_isRuined : MethodName := ⟨RX1, "isRuined", "()Z"⟩
abbrev cX1_takesPart : ByteArray := prog_3_method_6_code
def yX1_takesPart : MethodName := ⟨RX1, "takesPart", "()Z"⟩
abbrev cX1_hasTable : ByteArray := prog_3_method_7_code
def yX1_hasTable : MethodName := ⟨RX1, "hasTable", "()Z"⟩
abbrev cX1_tableSize : ByteArray := prog_3_method_8_code
def yX1_tableSize : MethodName := ⟨RX1, "tableSize", "()I"⟩
abbrev cX1_slotOf : ByteArray := prog_3_method_9_code
def yX1_slotOf : MethodName := ⟨RX1, "slotOf", "(II)I"⟩
abbrev cX1_wordOfItsOwn : ByteArray := prog_3_method_10_code
def yX1_wordOfItsOwn : MethodName := ⟨RX1, "wordOfItsOwn", "(II)I"⟩
abbrev cX1_stakeNow : ByteArray := prog_3_method_11_code
def yX1_stakeNow : MethodName := ⟨RX1, "stakeNow", "(III)I"⟩
abbrev cX1_learn : ByteArray := prog_3_method_12_code
def yX1_learn : MethodName := ⟨RX1, "learn", "(III)V"⟩
abbrev cX1_note : ByteArray := prog_3_method_13_code
def yX1_note : MethodName := ⟨RX1, "note", "(Z)V"⟩
def RX2 : String := "BranchBets$Past"
def TX2 : u_T := fun k => match k with
  | 0 => ("BranchBets$Past", "states", "[LBranchBets$State;", true)
  | 1 => ("BranchBets$Past", "first", "I", false)
  | _ => ("BranchBets$Past", "size", "I", false)
def tyX2 : Nat → FieldType := fun k => match k with
  | 0 => .array (.object "BranchBets$State")
  | 1 => .int
  | _ => .int
abbrev wsX20 : List Cond := u_ws RX2 TX2 3
theorem nmX2 : ∀ a, a < 3 → ∀ b, b < 3 → a ≠ b → (TX2 a).2.1 ≠ (TX2 b).2.1 := by decide +kernel
theorem tyX2_ok : ∀ k, k < 3 → parseFieldDescriptor (TX2 k).2.2.1 = some (tyX2 k) := by decide +kernel
abbrev cX2_init : ByteArray := prog_4_method_1_code
def yX2_init : MethodName := ⟨RX2, "<init>", "()V"⟩
abbrev cX2_keep : ByteArray := prog_4_method_2_code
def yX2_keep : MethodName := ⟨RX2, "keep", "(LBranchBets$State;)V"⟩
abbrev cX2_restoreInto : ByteArray := prog_4_method_3_code
def yX2_restoreInto : MethodName := ⟨RX2, "restoreInto", "(LBranchBets$State;)V"⟩
def RX3 : String := "BranchBets$State"
def TX3 : u_T := fun k => match k with
  | 0 => ("BranchBets$State", "oracles", "[LBranchBets$Oracle;", true)
  | 1 => ("BranchBets$State", "loans", "[LBranchBets$Loan;", true)
  | 2 => ("BranchBets$State", "settings", "[I", true)
  | 3 => ("BranchBets$State", "oracleCount", "I", false)
  | 4 => ("BranchBets$State", "loanCount", "I", false)
  | 5 => ("BranchBets$State", "houseCoins", "I", false)
  | 6 => ("BranchBets$State", "history", "I", false)
  | 7 => ("BranchBets$State", "branches", "I", false)
  | 8 => ("BranchBets$State", "bets", "I", false)
  | _ => ("BranchBets$State", "seenAddresses", "J", false)
def tyX3 : Nat → FieldType := fun k => match k with
  | 0 => .array (.object "BranchBets$Oracle")
  | 1 => .array (.object "BranchBets$Loan")
  | 2 => .array .int
  | 3 => .int
  | 4 => .int
  | 5 => .int
  | 6 => .int
  | 7 => .int
  | 8 => .int
  | _ => .long
abbrev wsX30 : List Cond := u_ws RX3 TX3 10
theorem nmX3 : ∀ a, a < 10 → ∀ b, b < 10 → a ≠ b → (TX3 a).2.1 ≠ (TX3 b).2.1 := by decide +kernel
theorem tyX3_ok : ∀ k, k < 10 → parseFieldDescriptor (TX3 k).2.2.1 = some (tyX3 k) := by decide +kernel
abbrev cX3_init : ByteArray := prog_5_method_1_code
def yX3_init : MethodName := ⟨RX3, "<init>", "()V"⟩
abbrev cX3_copyFrom : ByteArray := prog_5_method_2_code
def yX3_copyFrom : MethodName := ⟨RX3, "copyFrom", "(LBranchBets$State;)V"⟩
abbrev cX3_sittersOf : ByteArray := prog_5_method_3_code
def yX3_sittersOf : MethodName := ⟨RX3, "sittersOf", "(I)I"⟩
abbrev cX3_lowestFreeSeat : ByteArray := prog_5_method_4_code
def yX3_lowestFreeSeat : MethodName := ⟨RX3, "lowestFreeSeat", "(I)I"⟩
abbrev cX3_isTaken : ByteArray := prog_5_method_5_code
def yX3_isTaken : MethodName := ⟨RX3, "isTaken", "(II)Z"⟩
abbrev cX3_seatedOracles : ByteArray := prog_5_method_6_code
def yX3_seatedOracles : MethodName := ⟨RX3, "seatedOracles", "()I"⟩
abbrev cX3_ruinedOracles : ByteArray := prog_5_method_7_code
def yX3_ruinedOracles : MethodName := ⟨RX3, "ruinedOracles", "()I"⟩
abbrev cX3_allCoins : ByteArray := prog_5_method_8_code
def yX3_allCoins : MethodName := ⟨RX3, "allCoins", "()I"⟩
abbrev cX3_richerThan : ByteArray := prog_5_method_9_code
def yX3_richerThan : MethodName := ⟨RX3, "richerThan", "(I)I"⟩
abbrev cX3_addLoan : ByteArray := prog_5_method_10_code
def yX3_addLoan : MethodName := ⟨RX3, "addLoan", "(III)I"⟩
abbrev cX3_debtsOf : ByteArray := prog_5_method_11_code
def yX3_debtsOf : MethodName := ⟨RX3, "debtsOf", "(I)I"⟩
abbrev cX3_claimsOf : ByteArray := prog_5_method_12_code
def yX3_claimsOf : MethodName := ⟨RX3, "claimsOf", "(I)I"⟩
abbrev cX3_hasSeen : ByteArray := prog_5_method_13_code
def yX3_hasSeen : MethodName := ⟨RX3, "hasSeen", "(I)Z"⟩
abbrev cX3_foretell : ByteArray := prog_5_method_14_code
def yX3_foretell : MethodName := ⟨RX3, "foretell", "(I)V"⟩
abbrev cX3_stakesOn : ByteArray := prog_5_method_15_code
def yX3_stakesOn : MethodName := ⟨RX3, "stakesOn", "(I)I"⟩
abbrev cX3_runBranch : ByteArray := prog_5_method_16_code
def yX3_runBranch : MethodName := ⟨RX3, "runBranch", "(II)I"⟩
abbrev cX3_settleBets : ByteArray := prog_5_method_17_code
def yX3_settleBets : MethodName := ⟨RX3, "settleBets", "(I)I"⟩
abbrev cX3_payCreditors : ByteArray := prog_5_method_18_code
def yX3_payCreditors : MethodName := ⟨RX3, "payCreditors", "(II)V"⟩
abbrev cX3_dropLoansPaidBack : ByteArray := prog_5_method_19_code
def yX3_dropLoansPaidBack : MethodName := ⟨RX3, "dropLoansPaidBack", "()V"⟩
abbrev cX3_keepRecords : ByteArray := prog_5_method_20_code
def yX3_keepRecords : MethodName := ⟨RX3, "keepRecords", "(I)V"⟩
abbrev cX3_learnFrom : ByteArray := prog_5_method_21_code
def yX3_learnFrom : MethodName := ⟨RX3, "learnFrom", "(II)V"⟩
def RX4 : String := "BranchBets$Text"
def TX4 : u_T := fun k => match k with
  | 0 => ("BranchBets$Text", "characters", "[C", true)
  | 1 => ("BranchBets$Text", "numbers", "[I", true)
  | 2 => ("BranchBets$Text", "length", "I", false)
  | 3 => ("BranchBets$Text", "start", "I", false)
  | 4 => ("BranchBets$Text", "end", "I", false)
  | 5 => ("BranchBets$Text", "word", "I", false)
  | 6 => ("BranchBets$Text", "reason", "I", false)
  | _ => ("BranchBets$Text", "cause", "I", false)
def tyX4 : Nat → FieldType := fun k => match k with
  | 0 => .array .char
  | 1 => .array .int
  | 2 => .int
  | 3 => .int
  | 4 => .int
  | 5 => .int
  | 6 => .int
  | _ => .int
abbrev wsX40 : List Cond := u_ws RX4 TX4 8
theorem nmX4 : ∀ a, a < 8 → ∀ b, b < 8 → a ≠ b → (TX4 a).2.1 ≠ (TX4 b).2.1 := by decide +kernel
theorem tyX4_ok : ∀ k, k < 8 → parseFieldDescriptor (TX4 k).2.2.1 = some (tyX4 k) := by decide +kernel
abbrev cX4_init : ByteArray := prog_6_method_1_code
def yX4_init : MethodName := ⟨RX4, "<init>", "()V"⟩
abbrev cX4_append : ByteArray := prog_6_method_2_code
def yX4_append : MethodName := ⟨RX4, "append", "(C)V"⟩
abbrev cX4_hasFault : ByteArray := prog_6_method_3_code
def yX4_hasFault : MethodName := ⟨RX4, "hasFault", "()Z"⟩
abbrev cX4_readOrder : ByteArray := prog_6_method_4_code
def yX4_readOrder : MethodName := ⟨RX4, "readOrder", "(I)V"⟩
abbrev cX4_readNumber : ByteArray := prog_6_method_5_code
def yX4_readNumber : MethodName := ⟨RX4, "readNumber", "(I)Z"⟩
abbrev cX4_checkRanges : ByteArray := prog_6_method_6_code
def yX4_checkRanges : MethodName := ⟨RX4, "checkRanges", "()V"⟩
abbrev cX4_endOfLetters : ByteArray := prog_6_method_7_code
def yX4_endOfLetters : MethodName := ⟨RX4, "endOfLetters", "(I)I"⟩
abbrev cX4_wordUpTo : ByteArray := prog_6_method_8_code
def yX4_wordUpTo : MethodName := ⟨RX4, "wordUpTo", "(I)I"⟩
abbrev cX4_isWord : ByteArray := prog_6_method_9_code
def yX4_isWord : MethodName := ⟨RX4, "isWord", "(Ljava/lang/String;I)Z"⟩
abbrev cX4_characterAt : ByteArray := prog_6_method_10_code
def yX4_characterAt : MethodName := ⟨RX4, "characterAt", "(I)C"⟩
abbrev cX4_isDigit : ByteArray := prog_6_method_11_code
def yX4_isDigit : MethodName := ⟨RX4, "isDigit", "(C)Z"⟩
def RX5 : String := "BranchBets"
def TX5 : u_T := fun k => match k with
  | 0 => ("BranchBets", "now", "LBranchBets$State;", true)
  | 1 => ("BranchBets", "trial", "LBranchBets$State;", true)
  | 2 => ("BranchBets", "past", "LBranchBets$Past;", true)
  | _ => ("BranchBets", "text", "LBranchBets$Text;", true)
def tyX5 : Nat → FieldType := fun k => match k with
  | 0 => .object "BranchBets$State"
  | 1 => .object "BranchBets$State"
  | 2 => .object "BranchBets$Past"
  | _ => .object "BranchBets$Text"
abbrev wsX50 : List Cond := u_ws RX5 TX5 4
theorem nmX5 : ∀ a, a < 4 → ∀ b, b < 4 → a ≠ b → (TX5 a).2.1 ≠ (TX5 b).2.1 := by decide +kernel
theorem tyX5_ok : ∀ k, k < 4 → parseFieldDescriptor (TX5 k).2.2.1 = some (tyX5 k) := by decide +kernel
abbrev cX5_init : ByteArray := prog_1_method_1_code
def yX5_init : MethodName := ⟨RX5, "<init>", "()V"⟩
abbrev cX5_set : ByteArray := prog_1_method_2_code
def yX5_set : MethodName := ⟨RX5, "set", "(II)I"⟩
abbrev cX5_oracle : ByteArray := prog_1_method_3_code
def yX5_oracle : MethodName := ⟨RX5, "oracle", "(III)I"⟩
abbrev cX5_seat : ByteArray := prog_1_method_4_code
def yX5_seat : MethodName := ⟨RX5, "seat", "(II)I"⟩
abbrev cX5_stand : ByteArray := prog_1_method_5_code
def yX5_stand : MethodName := ⟨RX5, "stand", "(I)I"⟩
abbrev cX5_give : ByteArray := prog_1_method_6_code
def yX5_give : MethodName := ⟨RX5, "give", "(II)I"⟩
abbrev cX5_lend : ByteArray := prog_1_method_7_code
def yX5_lend : MethodName := ⟨RX5, "lend", "(III)I"⟩
abbrev cX5_branch : ByteArray := prog_1_method_8_code
def yX5_branch : MethodName := ⟨RX5, "branch", "(II)I"⟩
abbrev cX5_oracleOf : ByteArray := prog_1_method_9_code
def yX5_oracleOf : MethodName := ⟨RX5, "oracleOf", "(II)I"⟩
abbrev cX5_counter : ByteArray := prog_1_method_10_code
def yX5_counter : MethodName := ⟨RX5, "counter", "(II)I"⟩
abbrev cX5_loanOf : ByteArray := prog_1_method_11_code
def yX5_loanOf : MethodName := ⟨RX5, "loanOf", "(II)I"⟩
abbrev cX5_aliases : ByteArray := prog_1_method_12_code
def yX5_aliases : MethodName := ⟨RX5, "aliases", "(II)I"⟩
abbrev cX5_share : ByteArray := prog_1_method_13_code
def yX5_share : MethodName := ⟨RX5, "share", "(I)I"⟩
abbrev cX5_rich : ByteArray := prog_1_method_14_code
def yX5_rich : MethodName := ⟨RX5, "rich", "(I)I"⟩
abbrev cX5_says : ByteArray := prog_1_method_15_code
def yX5_says : MethodName := ⟨RX5, "says", "(II)I"⟩
abbrev cX5_stake : ByteArray := prog_1_method_16_code
def yX5_stake : MethodName := ⟨RX5, "stake", "(II)I"⟩
abbrev cX5_odds : ByteArray := prog_1_method_17_code
def yX5_odds : MethodName := ⟨RX5, "odds", "(I)I"⟩
abbrev cX5_gain : ByteArray := prog_1_method_18_code
def yX5_gain : MethodName := ⟨RX5, "gain", "(III)I"⟩
abbrev cX5_doom : ByteArray := prog_1_method_19_code
def yX5_doom : MethodName := ⟨RX5, "doom", "(III)I"⟩
abbrev cX5_bestRow : ByteArray := prog_1_method_20_code
def yX5_bestRow : MethodName := ⟨RX5, "bestRow", "(IIII)I"⟩
abbrev cX5_count : ByteArray := prog_1_method_21_code
def yX5_count : MethodName := ⟨RX5, "count", "(I)I"⟩
abbrev cX5_undo : ByteArray := prog_1_method_22_code
def yX5_undo : MethodName := ⟨RX5, "undo", "()I"⟩
abbrev cX5_type : ByteArray := prog_1_method_23_code
def yX5_type : MethodName := ⟨RX5, "type", "(I)I"⟩
abbrev cX5_clearText : ByteArray := prog_1_method_24_code
def yX5_clearText : MethodName := ⟨RX5, "clearText", "()I"⟩
abbrev cX5_fault : ByteArray := prog_1_method_25_code
def yX5_fault : MethodName := ⟨RX5, "fault", "(I)I"⟩
abbrev cX5_play : ByteArray := prog_1_method_26_code
def yX5_play : MethodName := ⟨RX5, "play", "()I"⟩
abbrev cX5_isWithin : ByteArray := prog_1_method_27_code
def yX5_isWithin : MethodName := ⟨RX5, "isWithin", "(III)Z"⟩
abbrev cX5_isAddress : ByteArray := prog_1_method_28_code
def yX5_isAddress : MethodName := ⟨RX5, "isAddress", "(I)Z"⟩
abbrev cX5_isOracle : ByteArray := prog_1_method_29_code
def yX5_isOracle : MethodName := ⟨RX5, "isOracle", "(I)Z"⟩
abbrev cX5_mostNumberOf : ByteArray := prog_1_method_30_code
def yX5_mostNumberOf : MethodName := ⟨RX5, "mostNumberOf", "(I)I"⟩
abbrev cX5_takes : ByteArray := prog_1_method_31_code
def yX5_takes : MethodName := ⟨RX5, "takes", "(ILBranchBets$Oracle;)Z"⟩
abbrev cX5_bitsOfQuotient : ByteArray := prog_1_method_32_code
def yX5_bitsOfQuotient : MethodName := ⟨RX5, "bitsOfQuotient", "(II)I"⟩
abbrev cX5_purseBehind : ByteArray := prog_1_method_33_code
def yX5_purseBehind : MethodName := ⟨RX5, "purseBehind", "(IIII)I"⟩
abbrev cX5_doOrderRead : ByteArray := prog_1_method_34_code
def yX5_doOrderRead : MethodName := ⟨RX5, "doOrderRead", "()I"⟩
abbrev cX5_wayOf : ByteArray := prog_1_method_35_code
def yX5_wayOf : MethodName := ⟨RX5, "wayOf", "(III)I"⟩
def RX6 : String := "BranchBetsModel"
def TX6 : u_T := fun k => match k with
  | 0 => ("BranchBetsModel", "state", "[I", true)
  | 1 => ("BranchBetsModel", "kept", "[I", true)
  | 2 => ("BranchBetsModel", "states", "[I", true)
  | 3 => ("BranchBetsModel", "recorded", "I", false)
  | 4 => ("BranchBetsModel", "text", "[I", true)
  | 5 => ("BranchBetsModel", "textLength", "I", false)
  | 6 => ("BranchBetsModel", "takesPart", "[I", true)
  | 7 => ("BranchBetsModel", "said", "[I", true)
  | 8 => ("BranchBetsModel", "stakes", "[I", true)
  | 9 => ("BranchBetsModel", "purses", "[I", true)
  | 10 => ("BranchBetsModel", "begin", "I", false)
  | 11 => ("BranchBetsModel", "order", "I", false)
  | 12 => ("BranchBetsModel", "first", "I", false)
  | 13 => ("BranchBetsModel", "second", "I", false)
  | 14 => ("BranchBetsModel", "behind", "I", false)
  | 15 => ("BranchBetsModel", "reason", "I", false)
  | _ => ("BranchBetsModel", "cause", "I", false)
def tyX6 : Nat → FieldType := fun k => match k with
  | 0 => .array .int
  | 1 => .array .int
  | 2 => .array .int
  | 3 => .int
  | 4 => .array .int
  | 5 => .int
  | 6 => .array .int
  | 7 => .array .int
  | 8 => .array .int
  | 9 => .array .int
  | 10 => .int
  | 11 => .int
  | 12 => .int
  | 13 => .int
  | 14 => .int
  | 15 => .int
  | _ => .int
abbrev wsX60 : List Cond := u_ws RX6 TX6 17
theorem nmX6 : ∀ a, a < 17 → ∀ b, b < 17 → a ≠ b → (TX6 a).2.1 ≠ (TX6 b).2.1 := by decide +kernel
theorem tyX6_ok : ∀ k, k < 17 → parseFieldDescriptor (TX6 k).2.2.1 = some (tyX6 k) := by decide +kernel
abbrev cX6_init : ByteArray := prog_8_method_1_code
def yX6_init : MethodName := ⟨RX6, "<init>", "()V"⟩
abbrev cX6_copy : ByteArray := prog_8_method_3_code
def yX6_copy : MethodName := ⟨RX6, "copy", "([II[II)V"⟩
abbrev cX6_within : ByteArray := prog_8_method_4_code
def yX6_within : MethodName := ⟨RX6, "within", "(III)Z"⟩
abbrev cX6_record : ByteArray := prog_8_method_5_code
def yX6_record : MethodName := ⟨RX6, "record", "()V"⟩
abbrev cX6_isOracle : ByteArray := prog_8_method_6_code
def yX6_isOracle : MethodName := ⟨RX6, "isOracle", "(I)Z"⟩
abbrev cX6_isAddress : ByteArray := prog_8_method_7_code
def yX6_isAddress : MethodName := ⟨RX6, "isAddress", "(I)Z"⟩
abbrev cX6_isTaken : ByteArray := prog_8_method_8_code
def yX6_isTaken : MethodName := ⟨RX6, "isTaken", "(I)Z"⟩
abbrev cX6_part : ByteArray := prog_8_method_9_code
def yX6_part : MethodName := ⟨RX6, "part", "(II)I"⟩
abbrev cX6_setPart : ByteArray := prog_8_method_10_code
def yX6_setPart : MethodName := ⟨RX6, "setPart", "(III)V"⟩
abbrev cX6_addPart : ByteArray := prog_8_method_11_code
def yX6_addPart : MethodName := ⟨RX6, "addPart", "(III)V"⟩
abbrev cX6_loanPart : ByteArray := prog_8_method_12_code
def yX6_loanPart : MethodName := ⟨RX6, "loanPart", "(II)I"⟩
abbrev cX6_hasTable : ByteArray := prog_8_method_13_code
def yX6_hasTable : MethodName := ⟨RX6, "hasTable", "(I)Z"⟩
abbrev cX6_sizeOf : ByteArray := prog_8_method_14_code
def yX6_sizeOf : MethodName := ⟨RX6, "sizeOf", "(I)I"⟩
abbrev cX6_indexOf : ByteArray := prog_8_method_15_code
def yX6_indexOf : MethodName := ⟨RX6, "indexOf", "(II)I"⟩
abbrev cX6_counterOf : ByteArray := prog_8_method_16_code
def yX6_counterOf : MethodName := ⟨RX6, "counterOf", "(II)I"⟩
abbrev cX6_hasSeat : ByteArray := prog_8_method_17_code
def yX6_hasSeat : MethodName := ⟨RX6, "hasSeat", "(I)Z"⟩
abbrev cX6_isIn : ByteArray := prog_8_method_18_code
def yX6_isIn : MethodName := ⟨RX6, "isIn", "(I)Z"⟩
abbrev cX6_plainWord : ByteArray := prog_8_method_19_code
def yX6_plainWord : MethodName := ⟨RX6, "plainWord", "(II)I"⟩
abbrev cX6_wordOf : ByteArray := prog_8_method_20_code
def yX6_wordOf : MethodName := ⟨RX6, "wordOf", "(II)I"⟩
abbrev cX6_stakeOf : ByteArray := prog_8_method_21_code
def yX6_stakeOf : MethodName := ⟨RX6, "stakeOf", "(II)I"⟩
abbrev cX6_isSetting : ByteArray := prog_8_method_22_code
def yX6_isSetting : MethodName := ⟨RX6, "isSetting", "(II)Z"⟩
abbrev cX6_set : ByteArray := prog_8_method_23_code
def yX6_set : MethodName := ⟨RX6, "set", "(II)I"⟩
abbrev cX6_oracle : ByteArray := prog_8_method_24_code
def yX6_oracle : MethodName := ⟨RX6, "oracle", "(III)I"⟩
abbrev cX6_sitting : ByteArray := prog_8_method_25_code
def yX6_sitting : MethodName := ⟨RX6, "sitting", "(I)I"⟩
abbrev cX6_seat : ByteArray := prog_8_method_26_code
def yX6_seat : MethodName := ⟨RX6, "seat", "(II)I"⟩
abbrev cX6_stand : ByteArray := prog_8_method_27_code
def yX6_stand : MethodName := ⟨RX6, "stand", "(I)I"⟩
abbrev cX6_give : ByteArray := prog_8_method_28_code
def yX6_give : MethodName := ⟨RX6, "give", "(II)I"⟩
abbrev cX6_lend : ByteArray := prog_8_method_29_code
def yX6_lend : MethodName := ⟨RX6, "lend", "(III)I"⟩
abbrev cX6_paysBack : ByteArray := prog_8_method_30_code
def yX6_paysBack : MethodName := ⟨RX6, "paysBack", "(II)V"⟩
abbrev cX6_bets : ByteArray := prog_8_method_31_code
def yX6_bets : MethodName := ⟨RX6, "bets", "(I)I"⟩
abbrev cX6_learns : ByteArray := prog_8_method_32_code
def yX6_learns : MethodName := ⟨RX6, "learns", "(III)V"⟩
abbrev cX6_comes : ByteArray := prog_8_method_33_code
def yX6_comes : MethodName := ⟨RX6, "comes", "(II)I"⟩
abbrev cX6_branch : ByteArray := prog_8_method_34_code
def yX6_branch : MethodName := ⟨RX6, "branch", "(II)I"⟩
abbrev cX6_owes : ByteArray := prog_8_method_35_code
def yX6_owes : MethodName := ⟨RX6, "owes", "(II)I"⟩
abbrev cX6_oracleOf : ByteArray := prog_8_method_36_code
def yX6_oracleOf : MethodName := ⟨RX6, "oracleOf", "(II)I"⟩
abbrev cX6_counter : ByteArray := prog_8_method_37_code
def yX6_counter : MethodName := ⟨RX6, "counter", "(II)I"⟩
abbrev cX6_loanOf : ByteArray := prog_8_method_38_code
def yX6_loanOf : MethodName := ⟨RX6, "loanOf", "(II)I"⟩
abbrev cX6_aliases : ByteArray := prog_8_method_39_code
def yX6_aliases : MethodName := ⟨RX6, "aliases", "(II)I"⟩
abbrev cX6_floatBits : ByteArray := prog_8_method_40_code
def yX6_floatBits : MethodName := ⟨RX6, "floatBits", "(II)I"⟩
abbrev cX6_share : ByteArray := prog_8_method_41_code
def yX6_share : MethodName := ⟨RX6, "share", "(I)I"⟩
abbrev cX6_richer : ByteArray := prog_8_method_42_code
def yX6_richer : MethodName := ⟨RX6, "richer", "(I)I"⟩
abbrev cX6_rich : ByteArray := prog_8_method_43_code
def yX6_rich : MethodName := ⟨RX6, "rich", "(I)I"⟩
abbrev cX6_says : ByteArray := prog_8_method_44_code
def yX6_says : MethodName := ⟨RX6, "says", "(II)I"⟩
abbrev cX6_stake : ByteArray := prog_8_method_45_code
def yX6_stake : MethodName := ⟨RX6, "stake", "(II)I"⟩
abbrev cX6_odds : ByteArray := prog_8_method_46_code
def yX6_odds : MethodName := ⟨RX6, "odds", "(I)I"⟩
abbrev cX6_gain : ByteArray := prog_8_method_47_code
def yX6_gain : MethodName := ⟨RX6, "gain", "(III)I"⟩
abbrev cX6_doom : ByteArray := prog_8_method_48_code
def yX6_doom : MethodName := ⟨RX6, "doom", "(III)I"⟩
abbrev cX6_bestRow : ByteArray := prog_8_method_49_code
def yX6_bestRow : MethodName := ⟨RX6, "bestRow", "(IIII)I"⟩
abbrev cX6_count : ByteArray := prog_8_method_50_code
def yX6_count : MethodName := ⟨RX6, "count", "(I)I"⟩
abbrev cX6_undo : ByteArray := prog_8_method_51_code
def yX6_undo : MethodName := ⟨RX6, "undo", "()I"⟩
abbrev cX6_type : ByteArray := prog_8_method_52_code
def yX6_type : MethodName := ⟨RX6, "type", "(I)I"⟩
abbrev cX6_clearText : ByteArray := prog_8_method_53_code
def yX6_clearText : MethodName := ⟨RX6, "clearText", "()I"⟩
abbrev cX6_character : ByteArray := prog_8_method_54_code
def yX6_character : MethodName := ⟨RX6, "character", "(I)I"⟩
abbrev cX6_isLetter : ByteArray := prog_8_method_55_code
def yX6_isLetter : MethodName := ⟨RX6, "isLetter", "(I)Z"⟩
abbrev cX6_isWord : ByteArray := prog_8_method_56_code
def yX6_isWord : MethodName := ⟨RX6, "isWord", "(IIIII)Z"⟩
abbrev cX6_orderOf : ByteArray := prog_8_method_57_code
def yX6_orderOf : MethodName := ⟨RX6, "orderOf", "(I)I"⟩
abbrev cX6_number : ByteArray := prog_8_method_58_code
def yX6_number : MethodName := ⟨RX6, "number", "()I"⟩
abbrev cX6_isOfForm : ByteArray := prog_8_method_59_code
def yX6_isOfForm : MethodName := ⟨RX6, "isOfForm", "()Z"⟩
abbrev cX6_readsOrder : ByteArray := prog_8_method_60_code
def yX6_readsOrder : MethodName := ⟨RX6, "readsOrder", "()Z"⟩
abbrev cX6_hasFault : ByteArray := prog_8_method_61_code
def yX6_hasFault : MethodName := ⟨RX6, "hasFault", "()Z"⟩
abbrev cX6_fault : ByteArray := prog_8_method_62_code
def yX6_fault : MethodName := ⟨RX6, "fault", "(I)I"⟩
abbrev cX6_does : ByteArray := prog_8_method_63_code
def yX6_does : MethodName := ⟨RX6, "does", "()I"⟩
abbrev cX6_play : ByteArray := prog_8_method_64_code
def yX6_play : MethodName := ⟨RX6, "play", "()I"⟩
def RJ9 : String := "java/lang/Math"
def TJ9 : u_T := fun k => match k with
  | _ => ("", "", "", false)
def tyJ9 : Nat → FieldType := fun k => match k with
  | _ => .int
abbrev wsJ90 : List Cond := u_ws RJ9 TJ9 0
theorem nmJ9 : ∀ a, a < 0 → ∀ b, b < 0 → a ≠ b → (TJ9 a).2.1 ≠ (TJ9 b).2.1 := by decide +kernel
theorem tyJ9_ok : ∀ k, k < 0 → parseFieldDescriptor (TJ9 k).2.2.1 = some (tyJ9 k) := by decide +kernel
abbrev cJ9_max_7cf53 : ByteArray := prog_9_method_65_code
def yJ9_max_7cf53 : MethodName := ⟨RJ9, "max", "(II)I"⟩
abbrev cJ9_min_7cf53 : ByteArray := prog_9_method_69_code
def yJ9_min_7cf53 : MethodName := ⟨RJ9, "min", "(II)I"⟩
def RJ0 : String := "java/lang/String"
def TJ0 : u_T := fun k => match k with
  | _ => ("", "", "", false)
def tyJ0 : Nat → FieldType := fun k => match k with
  | _ => .int
abbrev wsJ00 : List Cond := u_ws RJ0 TJ0 0
theorem nmJ0 : ∀ a, a < 0 → ∀ b, b < 0 → a ≠ b → (TJ0 a).2.1 ≠ (TJ0 b).2.1 := by decide +kernel
theorem tyJ0_ok : ∀ k, k < 0 → parseFieldDescriptor (TJ0 k).2.2.1 = some (tyJ0 k) := by decide +kernel
abbrev cJ0_length_8abf5 : ByteArray := prog_10_method_54_code
def yJ0_length_8abf5 : MethodName := ⟨RJ0, "length", "()I"⟩
abbrev cJ0_charAt_5068e : ByteArray := prog_10_method_56_code
def yJ0_charAt_5068e : MethodName := ⟨RJ0, "charAt", "(I)C"⟩
abbrev cJ0_coder_7d493 : ByteArray := prog_10_method_152_code
def yJ0_coder_7d493 : MethodName := ⟨RJ0, "coder", "()B"⟩
abbrev cJ0_isLatin1_aae02 : ByteArray := prog_10_method_154_code
def yJ0_isLatin1_aae02 : MethodName := ⟨RJ0, "isLatin1", "()Z"⟩
abbrev cJ0_checkIndex_df160 : ByteArray := prog_10_method_155_code
def yJ0_checkIndex_df160 : MethodName := ⟨RJ0, "checkIndex", "(II)V"⟩
def RJ1 : String := "java/lang/StringLatin1"
def TJ1 : u_T := fun k => match k with
  | _ => ("", "", "", false)
def tyJ1 : Nat → FieldType := fun k => match k with
  | _ => .int
abbrev wsJ10 : List Cond := u_ws RJ1 TJ1 0
theorem nmJ1 : ∀ a, a < 0 → ∀ b, b < 0 → a ≠ b → (TJ1 a).2.1 ≠ (TJ1 b).2.1 := by decide +kernel
theorem tyJ1_ok : ∀ k, k < 0 → parseFieldDescriptor (TJ1 k).2.2.1 = some (tyJ1 k) := by decide +kernel
abbrev cJ1_charAt_3b067 : ByteArray := prog_11_method_2_code
def yJ1_charAt_3b067 : MethodName := ⟨RJ1, "charAt", "([BI)C"⟩
def RJ2 : String := "java/lang/StringUTF16"
def TJ2 : u_T := fun k => match k with
  | _ => ("", "", "", false)
def tyJ2 : Nat → FieldType := fun k => match k with
  | _ => .int
abbrev wsJ20 : List Cond := u_ws RJ2 TJ2 0
theorem nmJ2 : ∀ a, a < 0 → ∀ b, b < 0 → a ≠ b → (TJ2 a).2.1 ≠ (TJ2 b).2.1 := by decide +kernel
theorem tyJ2_ok : ∀ k, k < 0 → parseFieldDescriptor (TJ2 k).2.2.1 = some (tyJ2 k) := by decide +kernel
abbrev cJ2_getChar_3b067 : ByteArray := prog_12_method_5_code
def yJ2_getChar_3b067 : MethodName := ⟨RJ2, "getChar", "([BI)C"⟩
abbrev cJ2_length_9d52b : ByteArray := prog_12_method_6_code
def yJ2_length_9d52b : MethodName := ⟨RJ2, "length", "([B)I"⟩
abbrev cJ2_charAt_3b067 : ByteArray := prog_12_method_83_code
def yJ2_charAt_3b067 : MethodName := ⟨RJ2, "charAt", "([BI)C"⟩
abbrev cJ2_checkIndex_2214a : ByteArray := prog_12_method_91_code
def yJ2_checkIndex_2214a : MethodName := ⟨RJ2, "checkIndex", "(I[B)V"⟩
def RJ10 : String := "java/lang/System"
def TJ10 : u_T := fun k => match k with
  | _ => ("", "", "", false)
def tyJ10 : Nat → FieldType := fun k => match k with
  | _ => .int
abbrev wsJ100 : List Cond := u_ws RJ10 TJ10 0
theorem nmJ10 : ∀ a, a < 0 → ∀ b, b < 0 → a ≠ b → (TJ10 a).2.1 ≠ (TJ10 b).2.1 := by decide +kernel
theorem tyJ10_ok : ∀ k, k < 0 → parseFieldDescriptor (TJ10 k).2.2.1 = some (tyJ10 k) := by decide +kernel
def RJ3 : String := "jdk/internal/util/Preconditions"
def TJ3 : u_T := fun k => match k with
  | _ => ("", "", "", false)
def tyJ3 : Nat → FieldType := fun k => match k with
  | _ => .int
abbrev wsJ30 : List Cond := u_ws RJ3 TJ3 0
theorem nmJ3 : ∀ a, a < 0 → ∀ b, b < 0 → a ≠ b → (TJ3 a).2.1 ≠ (TJ3 b).2.1 := by decide +kernel
theorem tyJ3_ok : ∀ k, k < 0 → parseFieldDescriptor (TJ3 k).2.2.1 = some (tyJ3 k) := by decide +kernel
abbrev cJ3_checkIndex_8e157 : ByteArray := prog_14_method_11_code
def yJ3_checkIndex_8e157 : MethodName := ⟨RJ3, "checkIndex", "(IILjava/util/function/BiFunction;)I"⟩
def RL : String := "BranchBetsLaw"
abbrev cL_law : ByteArray := code
def yL_law : MethodName := ⟨RL, "law", "([I)Z"⟩
abbrev vwCl : List vw_C := [(RX0, TX0, 3), (RX1, TX1, 12), (RX2, TX2, 3), (RX3, TX3, 10), (RX4, TX4, 8), (RX5, TX5, 4), (RX6, TX6, 17)]

/-- the words that a callee can take over -/
def lw_gd : List Cond := lw_tbl.filter goodWord
theorem lw_in {w : Cond} (i : Nat) (h : tables_1[i]? = some w) (hg : goodWord w = true) : w ∈ lw_gd := List.mem_filter.mpr ⟨List.mem_append_right _ (List.mem_of_getElem? h), hg⟩
theorem lw_sel {w : Cond} (i : Nat) (h : (k2_sels lw_privs)[i]? = some w) (hg : goodWord w = true) : w ∈ lw_gd := List.mem_filter.mpr ⟨List.mem_append_left _ (List.mem_of_getElem? h), hg⟩
set_option maxRecDepth 100000 in
theorem lw_x0 : ∀ w ∈ u_ws RX0 TX0 3, w ∈ lw_gd := by decide +kernel
set_option maxRecDepth 100000 in
theorem lw_x1 : ∀ w ∈ u_ws RX1 TX1 12, w ∈ lw_gd := by decide +kernel
set_option maxRecDepth 100000 in
theorem lw_x2 : ∀ w ∈ u_ws RX2 TX2 3, w ∈ lw_gd := by decide +kernel
set_option maxRecDepth 100000 in
theorem lw_x3 : ∀ w ∈ u_ws RX3 TX3 10, w ∈ lw_gd := by decide +kernel
set_option maxRecDepth 100000 in
theorem lw_x4 : ∀ w ∈ u_ws RX4 TX4 8, w ∈ lw_gd := by decide +kernel
set_option maxRecDepth 100000 in
theorem lw_x5 : ∀ w ∈ u_ws RX5 TX5 4, w ∈ lw_gd := by decide +kernel
set_option maxRecDepth 100000 in
theorem lw_x6 : ∀ w ∈ u_ws RX6 TX6 17, w ∈ lw_gd := by decide +kernel
