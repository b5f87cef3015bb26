section
/-! PART A of the skeleton, and the printed names: starting texts -/
-- ===== PART A: goes FIRST, ahead of the names: the tables' words, and 'selects' of the private methods out of them =====
/-- a private method of a class that the tables say can be made, by its rows of tables_1 -/
def lw_okq (q : MethodName × Nat) : Prop := (q.1.cls ≠ "java/lang/invoke/MethodHandle" ∧ q.1.cls ≠ "java/lang/invoke/VarHandle") ∧ Cond.instantiable q.1.cls q.2 ∈ tables_1 ∧ Cond.privateMethod q.1 ∈ tables_1 ∧ Cond.instanceMethod q.1 ∈ tables_1
theorem lw_p0 : lw_okq (⟨"BranchBets", "isOracle", "(I)Z"⟩, 4) := ⟨⟨by decide +kernel, by decide +kernel⟩, List.mem_of_getElem? (i := 15) (by decide +kernel), List.mem_of_getElem? (i := 275) (by decide +kernel), List.mem_of_getElem? (i := 276) (by decide +kernel)⟩
theorem lw_p1 : lw_okq (⟨"BranchBets", "purseBehind", "(IIII)I"⟩, 4) := ⟨⟨by decide +kernel, by decide +kernel⟩, List.mem_of_getElem? (i := 15) (by decide +kernel), List.mem_of_getElem? (i := 478) (by decide +kernel), List.mem_of_getElem? (i := 479) (by decide +kernel)⟩
theorem lw_p2 : lw_okq (⟨"BranchBets", "doOrderRead", "()I"⟩, 4) := ⟨⟨by decide +kernel, by decide +kernel⟩, List.mem_of_getElem? (i := 15) (by decide +kernel), List.mem_of_getElem? (i := 622) (by decide +kernel), List.mem_of_getElem? (i := 623) (by decide +kernel)⟩
theorem lw_p3 : lw_okq (⟨"BranchBetsModel", "record", "()V"⟩, 17) := ⟨⟨by decide +kernel, by decide +kernel⟩, List.mem_of_getElem? (i := 629) (by decide +kernel), List.mem_of_getElem? (i := 698) (by decide +kernel), List.mem_of_getElem? (i := 699) (by decide +kernel)⟩
theorem lw_p4 : lw_okq (⟨"BranchBetsModel", "setPart", "(III)V"⟩, 17) := ⟨⟨by decide +kernel, by decide +kernel⟩, List.mem_of_getElem? (i := 629) (by decide +kernel), List.mem_of_getElem? (i := 710) (by decide +kernel), List.mem_of_getElem? (i := 711) (by decide +kernel)⟩
theorem lw_p5 : lw_okq (⟨"BranchBetsModel", "isOracle", "(I)Z"⟩, 17) := ⟨⟨by decide +kernel, by decide +kernel⟩, List.mem_of_getElem? (i := 629) (by decide +kernel), List.mem_of_getElem? (i := 718) (by decide +kernel), List.mem_of_getElem? (i := 719) (by decide +kernel)⟩
theorem lw_p6 : lw_okq (⟨"BranchBetsModel", "part", "(II)I"⟩, 17) := ⟨⟨by decide +kernel, by decide +kernel⟩, List.mem_of_getElem? (i := 629) (by decide +kernel), List.mem_of_getElem? (i := 722) (by decide +kernel), List.mem_of_getElem? (i := 723) (by decide +kernel)⟩
theorem lw_p7 : lw_okq (⟨"BranchBetsModel", "hasTable", "(I)Z"⟩, 17) := ⟨⟨by decide +kernel, by decide +kernel⟩, List.mem_of_getElem? (i := 629) (by decide +kernel), List.mem_of_getElem? (i := 726) (by decide +kernel), List.mem_of_getElem? (i := 727) (by decide +kernel)⟩
theorem lw_p8 : lw_okq (⟨"BranchBetsModel", "hasSeat", "(I)Z"⟩, 17) := ⟨⟨by decide +kernel, by decide +kernel⟩, List.mem_of_getElem? (i := 629) (by decide +kernel), List.mem_of_getElem? (i := 730) (by decide +kernel), List.mem_of_getElem? (i := 731) (by decide +kernel)⟩
theorem lw_p9 : lw_okq (⟨"BranchBetsModel", "sitting", "(I)I"⟩, 17) := ⟨⟨by decide +kernel, by decide +kernel⟩, List.mem_of_getElem? (i := 629) (by decide +kernel), List.mem_of_getElem? (i := 735) (by decide +kernel), List.mem_of_getElem? (i := 736) (by decide +kernel)⟩
theorem lw_p10 : lw_okq (⟨"BranchBetsModel", "addPart", "(III)V"⟩, 17) := ⟨⟨by decide +kernel, by decide +kernel⟩, List.mem_of_getElem? (i := 629) (by decide +kernel), List.mem_of_getElem? (i := 748) (by decide +kernel), List.mem_of_getElem? (i := 749) (by decide +kernel)⟩
theorem lw_p11 : lw_okq (⟨"BranchBetsModel", "comes", "(II)I"⟩, 17) := ⟨⟨by decide +kernel, by decide +kernel⟩, List.mem_of_getElem? (i := 629) (by decide +kernel), List.mem_of_getElem? (i := 766) (by decide +kernel), List.mem_of_getElem? (i := 767) (by decide +kernel)⟩
theorem lw_p12 : lw_okq (⟨"BranchBetsModel", "isIn", "(I)Z"⟩, 17) := ⟨⟨by decide +kernel, by decide +kernel⟩, List.mem_of_getElem? (i := 629) (by decide +kernel), List.mem_of_getElem? (i := 770) (by decide +kernel), List.mem_of_getElem? (i := 771) (by decide +kernel)⟩
theorem lw_p13 : lw_okq (⟨"BranchBetsModel", "wordOf", "(II)I"⟩, 17) := ⟨⟨by decide +kernel, by decide +kernel⟩, List.mem_of_getElem? (i := 629) (by decide +kernel), List.mem_of_getElem? (i := 774) (by decide +kernel), List.mem_of_getElem? (i := 775) (by decide +kernel)⟩
theorem lw_p14 : lw_okq (⟨"BranchBetsModel", "plainWord", "(II)I"⟩, 17) := ⟨⟨by decide +kernel, by decide +kernel⟩, List.mem_of_getElem? (i := 629) (by decide +kernel), List.mem_of_getElem? (i := 778) (by decide +kernel), List.mem_of_getElem? (i := 779) (by decide +kernel)⟩
theorem lw_p15 : lw_okq (⟨"BranchBetsModel", "counterOf", "(II)I"⟩, 17) := ⟨⟨by decide +kernel, by decide +kernel⟩, List.mem_of_getElem? (i := 629) (by decide +kernel), List.mem_of_getElem? (i := 782) (by decide +kernel), List.mem_of_getElem? (i := 783) (by decide +kernel)⟩
def lw_privs_1 : List (MethodName × Nat) := [(⟨"BranchBets", "isOracle", "(I)Z"⟩, 4), (⟨"BranchBets", "purseBehind", "(IIII)I"⟩, 4), (⟨"BranchBets", "doOrderRead", "()I"⟩, 4), (⟨"BranchBetsModel", "record", "()V"⟩, 17), (⟨"BranchBetsModel", "setPart", "(III)V"⟩, 17), (⟨"BranchBetsModel", "isOracle", "(I)Z"⟩, 17), (⟨"BranchBetsModel", "part", "(II)I"⟩, 17), (⟨"BranchBetsModel", "hasTable", "(I)Z"⟩, 17), (⟨"BranchBetsModel", "hasSeat", "(I)Z"⟩, 17), (⟨"BranchBetsModel", "sitting", "(I)I"⟩, 17), (⟨"BranchBetsModel", "addPart", "(III)V"⟩, 17), (⟨"BranchBetsModel", "comes", "(II)I"⟩, 17), (⟨"BranchBetsModel", "isIn", "(I)Z"⟩, 17), (⟨"BranchBetsModel", "wordOf", "(II)I"⟩, 17), (⟨"BranchBetsModel", "plainWord", "(II)I"⟩, 17), (⟨"BranchBetsModel", "counterOf", "(II)I"⟩, 17)]
theorem lw_r1 : ∀ q ∈ lw_privs_1, lw_okq q := List.forall_mem_cons.mpr ⟨lw_p0, List.forall_mem_cons.mpr ⟨lw_p1, List.forall_mem_cons.mpr ⟨lw_p2, List.forall_mem_cons.mpr ⟨lw_p3, List.forall_mem_cons.mpr ⟨lw_p4, List.forall_mem_cons.mpr ⟨lw_p5, List.forall_mem_cons.mpr ⟨lw_p6, List.forall_mem_cons.mpr ⟨lw_p7, List.forall_mem_cons.mpr ⟨lw_p8, List.forall_mem_cons.mpr ⟨lw_p9, List.forall_mem_cons.mpr ⟨lw_p10, List.forall_mem_cons.mpr ⟨lw_p11, List.forall_mem_cons.mpr ⟨lw_p12, List.forall_mem_cons.mpr ⟨lw_p13, List.forall_mem_cons.mpr ⟨lw_p14, List.forall_mem_cons.mpr ⟨lw_p15, fun _ h => absurd h List.not_mem_nil⟩⟩⟩⟩⟩⟩⟩⟩⟩⟩⟩⟩⟩⟩⟩⟩
theorem lw_p16 : lw_okq (⟨"BranchBetsModel", "indexOf", "(II)I"⟩, 17) := ⟨⟨by decide +kernel, by decide +kernel⟩, List.mem_of_getElem? (i := 629) (by decide +kernel), List.mem_of_getElem? (i := 786) (by decide +kernel), List.mem_of_getElem? (i := 787) (by decide +kernel)⟩
theorem lw_p17 : lw_okq (⟨"BranchBetsModel", "sizeOf", "(I)I"⟩, 17) := ⟨⟨by decide +kernel, by decide +kernel⟩, List.mem_of_getElem? (i := 629) (by decide +kernel), List.mem_of_getElem? (i := 790) (by decide +kernel), List.mem_of_getElem? (i := 791) (by decide +kernel)⟩
theorem lw_p18 : lw_okq (⟨"BranchBetsModel", "stakeOf", "(II)I"⟩, 17) := ⟨⟨by decide +kernel, by decide +kernel⟩, List.mem_of_getElem? (i := 629) (by decide +kernel), List.mem_of_getElem? (i := 794) (by decide +kernel), List.mem_of_getElem? (i := 795) (by decide +kernel)⟩
theorem lw_p19 : lw_okq (⟨"BranchBetsModel", "bets", "(I)I"⟩, 17) := ⟨⟨by decide +kernel, by decide +kernel⟩, List.mem_of_getElem? (i := 629) (by decide +kernel), List.mem_of_getElem? (i := 798) (by decide +kernel), List.mem_of_getElem? (i := 799) (by decide +kernel)⟩
theorem lw_p20 : lw_okq (⟨"BranchBetsModel", "paysBack", "(II)V"⟩, 17) := ⟨⟨by decide +kernel, by decide +kernel⟩, List.mem_of_getElem? (i := 629) (by decide +kernel), List.mem_of_getElem? (i := 802) (by decide +kernel), List.mem_of_getElem? (i := 803) (by decide +kernel)⟩
theorem lw_p21 : lw_okq (⟨"BranchBetsModel", "loanPart", "(II)I"⟩, 17) := ⟨⟨by decide +kernel, by decide +kernel⟩, List.mem_of_getElem? (i := 629) (by decide +kernel), List.mem_of_getElem? (i := 806) (by decide +kernel), List.mem_of_getElem? (i := 807) (by decide +kernel)⟩
theorem lw_p22 : lw_okq (⟨"BranchBetsModel", "learns", "(III)V"⟩, 17) := ⟨⟨by decide +kernel, by decide +kernel⟩, List.mem_of_getElem? (i := 629) (by decide +kernel), List.mem_of_getElem? (i := 811) (by decide +kernel), List.mem_of_getElem? (i := 812) (by decide +kernel)⟩
theorem lw_p23 : lw_okq (⟨"BranchBetsModel", "owes", "(II)I"⟩, 17) := ⟨⟨by decide +kernel, by decide +kernel⟩, List.mem_of_getElem? (i := 629) (by decide +kernel), List.mem_of_getElem? (i := 819) (by decide +kernel), List.mem_of_getElem? (i := 820) (by decide +kernel)⟩
theorem lw_p24 : lw_okq (⟨"BranchBetsModel", "richer", "(I)I"⟩, 17) := ⟨⟨by decide +kernel, by decide +kernel⟩, List.mem_of_getElem? (i := 629) (by decide +kernel), List.mem_of_getElem? (i := 849) (by decide +kernel), List.mem_of_getElem? (i := 850) (by decide +kernel)⟩
theorem lw_p25 : lw_okq (⟨"BranchBetsModel", "hasFault", "()Z"⟩, 17) := ⟨⟨by decide +kernel, by decide +kernel⟩, List.mem_of_getElem? (i := 629) (by decide +kernel), List.mem_of_getElem? (i := 897) (by decide +kernel), List.mem_of_getElem? (i := 898) (by decide +kernel)⟩
theorem lw_p26 : lw_okq (⟨"BranchBetsModel", "readsOrder", "()Z"⟩, 17) := ⟨⟨by decide +kernel, by decide +kernel⟩, List.mem_of_getElem? (i := 629) (by decide +kernel), List.mem_of_getElem? (i := 901) (by decide +kernel), List.mem_of_getElem? (i := 902) (by decide +kernel)⟩
theorem lw_p27 : lw_okq (⟨"BranchBetsModel", "isOfForm", "()Z"⟩, 17) := ⟨⟨by decide +kernel, by decide +kernel⟩, List.mem_of_getElem? (i := 629) (by decide +kernel), List.mem_of_getElem? (i := 905) (by decide +kernel), List.mem_of_getElem? (i := 906) (by decide +kernel)⟩
theorem lw_p28 : lw_okq (⟨"BranchBetsModel", "isLetter", "(I)Z"⟩, 17) := ⟨⟨by decide +kernel, by decide +kernel⟩, List.mem_of_getElem? (i := 629) (by decide +kernel), List.mem_of_getElem? (i := 909) (by decide +kernel), List.mem_of_getElem? (i := 910) (by decide +kernel)⟩
theorem lw_p29 : lw_okq (⟨"BranchBetsModel", "character", "(I)I"⟩, 17) := ⟨⟨by decide +kernel, by decide +kernel⟩, List.mem_of_getElem? (i := 629) (by decide +kernel), List.mem_of_getElem? (i := 913) (by decide +kernel), List.mem_of_getElem? (i := 914) (by decide +kernel)⟩
theorem lw_p30 : lw_okq (⟨"BranchBetsModel", "orderOf", "(I)I"⟩, 17) := ⟨⟨by decide +kernel, by decide +kernel⟩, List.mem_of_getElem? (i := 629) (by decide +kernel), List.mem_of_getElem? (i := 917) (by decide +kernel), List.mem_of_getElem? (i := 918) (by decide +kernel)⟩
theorem lw_p31 : lw_okq (⟨"BranchBetsModel", "isWord", "(IIIII)Z"⟩, 17) := ⟨⟨by decide +kernel, by decide +kernel⟩, List.mem_of_getElem? (i := 629) (by decide +kernel), List.mem_of_getElem? (i := 921) (by decide +kernel), List.mem_of_getElem? (i := 922) (by decide +kernel)⟩
def lw_privs_2 : List (MethodName × Nat) := [(⟨"BranchBetsModel", "indexOf", "(II)I"⟩, 17), (⟨"BranchBetsModel", "sizeOf", "(I)I"⟩, 17), (⟨"BranchBetsModel", "stakeOf", "(II)I"⟩, 17), (⟨"BranchBetsModel", "bets", "(I)I"⟩, 17), (⟨"BranchBetsModel", "paysBack", "(II)V"⟩, 17), (⟨"BranchBetsModel", "loanPart", "(II)I"⟩, 17), (⟨"BranchBetsModel", "learns", "(III)V"⟩, 17), (⟨"BranchBetsModel", "owes", "(II)I"⟩, 17), (⟨"BranchBetsModel", "richer", "(I)I"⟩, 17), (⟨"BranchBetsModel", "hasFault", "()Z"⟩, 17), (⟨"BranchBetsModel", "readsOrder", "()Z"⟩, 17), (⟨"BranchBetsModel", "isOfForm", "()Z"⟩, 17), (⟨"BranchBetsModel", "isLetter", "(I)Z"⟩, 17), (⟨"BranchBetsModel", "character", "(I)I"⟩, 17), (⟨"BranchBetsModel", "orderOf", "(I)I"⟩, 17), (⟨"BranchBetsModel", "isWord", "(IIIII)Z"⟩, 17)]
theorem lw_r2 : ∀ q ∈ lw_privs_2, lw_okq q := List.forall_mem_cons.mpr ⟨lw_p16, List.forall_mem_cons.mpr ⟨lw_p17, List.forall_mem_cons.mpr ⟨lw_p18, List.forall_mem_cons.mpr ⟨lw_p19, List.forall_mem_cons.mpr ⟨lw_p20, List.forall_mem_cons.mpr ⟨lw_p21, List.forall_mem_cons.mpr ⟨lw_p22, List.forall_mem_cons.mpr ⟨lw_p23, List.forall_mem_cons.mpr ⟨lw_p24, List.forall_mem_cons.mpr ⟨lw_p25, List.forall_mem_cons.mpr ⟨lw_p26, List.forall_mem_cons.mpr ⟨lw_p27, List.forall_mem_cons.mpr ⟨lw_p28, List.forall_mem_cons.mpr ⟨lw_p29, List.forall_mem_cons.mpr ⟨lw_p30, List.forall_mem_cons.mpr ⟨lw_p31, fun _ h => absurd h List.not_mem_nil⟩⟩⟩⟩⟩⟩⟩⟩⟩⟩⟩⟩⟩⟩⟩⟩
theorem lw_p32 : lw_okq (⟨"BranchBetsModel", "number", "()I"⟩, 17) := ⟨⟨by decide +kernel, by decide +kernel⟩, List.mem_of_getElem? (i := 629) (by decide +kernel), List.mem_of_getElem? (i := 925) (by decide +kernel), List.mem_of_getElem? (i := 926) (by decide +kernel)⟩
theorem lw_p33 : lw_okq (⟨"BranchBetsModel", "does", "()I"⟩, 17) := ⟨⟨by decide +kernel, by decide +kernel⟩, List.mem_of_getElem? (i := 629) (by decide +kernel), List.mem_of_getElem? (i := 933) (by decide +kernel), List.mem_of_getElem? (i := 934) (by decide +kernel)⟩
def lw_privs_3 : List (MethodName × Nat) := [(⟨"BranchBetsModel", "number", "()I"⟩, 17), (⟨"BranchBetsModel", "does", "()I"⟩, 17)]
theorem lw_r3 : ∀ q ∈ lw_privs_3, lw_okq q := List.forall_mem_cons.mpr ⟨lw_p32, List.forall_mem_cons.mpr ⟨lw_p33, fun _ h => absurd h List.not_mem_nil⟩⟩
def lw_privs : List (MethodName × Nat) := lw_privs_1 ++ (lw_privs_2 ++ (lw_privs_3))
def lw_tbl : List Cond := k2_sels lw_privs ++ tables_1
theorem lw_privs_ok : ∀ q ∈ lw_privs, lw_okq q := by
  show ∀ q ∈ lw_privs_1 ++ (lw_privs_2 ++ (lw_privs_3)), lw_okq q
  exact List.forall_mem_append.mpr ⟨lw_r1, List.forall_mem_append.mpr ⟨lw_r2, lw_r3⟩⟩
/-- the streams that the claim lets the run draw from -/
abbrev lw_cs : List Choice := [Jvm.Choice.named "NaN.bits"]
theorem lw_bits : nanBits ∈ lw_cs := by first | decide | exact List.mem_cons_self | simp [lw_cs, nanBits]
def RX0 : String := "BranchBets$Loan"
def TX0 : u_T := fun k => match k with
  | 0 => ("BranchBets$Loan", "creditor", "I", false)
  | 1 => ("BranchBets$Loan", "debtor", "I", false)
  | _ => ("BranchBets$Loan", "owed", "I", false)
def tyX0 : Nat → FieldType := fun k => match k with
  | 0 => .int
  | 1 => .int
  | _ => .int
abbrev wsX00 : List Cond := u_ws RX0 TX0 3
theorem nmX0 : ∀ a, a < 3 → ∀ b, b < 3 → a ≠ b → (TX0 a).2.1 ≠ (TX0 b).2.1 := by decide +kernel
theorem tyX0_ok : ∀ k, k < 3 → parseFieldDescriptor (TX0 k).2.2.1 = some (tyX0 k) := by decide +kernel
abbrev cX0_init : ByteArray := prog_2_method_1_code
def yX0_init : MethodName := ⟨RX0, "<init>", "()V"⟩
abbrev cX0_copyFrom : ByteArray := prog_2_method_2_code
def yX0_copyFrom : MethodName := ⟨RX0, "copyFrom", "(LBranchBets$Loan;)V"⟩
def RX1 : String := "BranchBets$Oracle"
def TX1 : u_T := fun k => match k with
  | 0 => ("BranchBets$Oracle", "kind", "I", false)
  | 1 => ("BranchBets$Oracle", "number", "I", false)
  | 2 => ("BranchBets$Oracle", "purse", "I", false)
  | 3 => ("BranchBets$Oracle", "booth", "I", false)
  | 4 => ("BranchBets$Oracle", "place", "I", false)
  | 5 => ("BranchBets$Oracle", "right", "I", false)
  | 6 => ("BranchBets$Oracle", "wrong", "I", false)
  | 7 => ("BranchBets$Oracle", "record", "I", false)
  | 8 => ("BranchBets$Oracle", "ruins", "I", false)
  | 9 => ("BranchBets$Oracle", "said", "I", false)
  | 10 => ("BranchBets$Oracle", "staked", "I", false)
  | _ => ("BranchBets$Oracle", "table", "[I", true)
def tyX1 : Nat → FieldType := fun k => match k with
  | 0 => .int
  | 1 => .int
  | 2 => .int
  | 3 => .int
  | 4 => .int
  | 5 => .int
  | 6 => .int
  | 7 => .int
  | 8 => .int
  | 9 => .int
  | 10 => .int
  | _ => .array .int
abbrev wsX10 : List Cond := u_ws RX1 TX1 12
theorem nmX1 : ∀ a, a < 12 → ∀ b, b < 12 → a ≠ b → (TX1 a).2.1 ≠ (TX1 b).2.1 := by decide +kernel
theorem tyX1_ok : ∀ k, k < 12 → parseFieldDescriptor (TX1 k).2.2.1 = some (tyX1 k) := by decide +kernel
abbrev cX1_init : ByteArray := prog_3_method_1_code
def yX1_init : MethodName := ⟨RX1, "<init>", "()V"⟩
abbrev cX1_begin : ByteArray := prog_3_method_2_code
def yX1_begin : MethodName := ⟨RX1, "begin", "(III)V"⟩
abbrev cX1_copyFrom : ByteArray := prog_3_method_3_code
def yX1_copyFrom : MethodName := ⟨RX1, "copyFrom", "(LBranchBets$Oracle;)V"⟩
abbrev cX1_hasSeat : ByteArray := prog_3_method_4_code
def yX1_hasSeat : MethodName := ⟨RX1, "hasSeat", "()Z"⟩
abbrev cX1_isRuined : ByteArray := prog_3_method_5_code
def yX1_isRuined : MethodName := ⟨RX1, "isRuined", "()Z"⟩
abbrev cX1_takesPart : ByteArray := prog_3_method_6_code
def yX1_takesPart : MethodName := ⟨RX1, "takesPart", "()Z"⟩
abbrev cX1_hasTable : ByteArray := prog_3_method_7_code
def yX1_hasTable : MethodName := ⟨RX1, "hasTable", "()Z"⟩
abbrev cX1_tableSize : ByteArray := prog_3_method_8_code
def yX1_tableSize : MethodName := ⟨RX1, "tableSize", "()I"⟩
abbrev cX1_slotOf : ByteArray := prog_3_method_9_code
def yX1_slotOf : MethodName := ⟨RX1, "slotOf", "(II)I"⟩
abbrev cX1_wordOfItsOwn : ByteArray := prog_3_method_10_code
def yX1_wordOfItsOwn : MethodName := ⟨RX1, "wordOfItsOwn", "(II)I"⟩
abbrev cX1_stakeNow : ByteArray := prog_3_method_11_code
def yX1_stakeNow : MethodName := ⟨RX1, "stakeNow", "(III)I"⟩
abbrev cX1_learn : ByteArray := prog_3_method_12_code
def yX1_learn : MethodName := ⟨RX1, "learn", "(III)V"⟩
abbrev cX1_note : ByteArray := prog_3_method_13_code
def yX1_note : MethodName := ⟨RX1, "note", "(Z)V"⟩
def RX2 : String := "BranchBets$Past"
def TX2 : u_T := fun k => match k with
  | 0 => ("BranchBets$Past", "states", "[LBranchBets$State;", true)
  | 1 => ("BranchBets$Past", "first", "I", false)
  | _ => ("BranchBets$Past", "size", "I", false)
def tyX2 : Nat → FieldType := fun k => match k with
  | 0 => .array (.object "BranchBets$State")
  | 1 => .int
  | _ => .int
abbrev wsX20 : List Cond := u_ws RX2 TX2 3
theorem nmX2 : ∀ a, a < 3 → ∀ b, b < 3 → a ≠ b → (TX2 a).2.1 ≠ (TX2 b).2.1 := by decide +kernel
theorem tyX2_ok : ∀ k, k < 3 → parseFieldDescriptor (TX2 k).2.2.1 = some (tyX2 k) := by decide +kernel
abbrev cX2_init : ByteArray := prog_4_method_1_code
def yX2_init : MethodName := ⟨RX2, "<init>", "()V"⟩
abbrev cX2_keep : ByteArray := prog_4_method_2_code
def yX2_keep : MethodName := ⟨RX2, "keep", "(LBranchBets$State;)V"⟩
abbrev cX2_restoreInto : ByteArray := prog_4_method_3_code
def yX2_restoreInto : MethodName := ⟨RX2, "restoreInto", "(LBranchBets$State;)V"⟩
def RX3 : String := "BranchBets$State"
def TX3 : u_T := fun k => match k with
  | 0 => ("BranchBets$State", "oracles", "[LBranchBets$Oracle;", true)
  | 1 => ("BranchBets$State", "loans", "[LBranchBets$Loan;", true)
  | 2 => ("BranchBets$State", "settings", "[I", true)
  | 3 => ("BranchBets$State", "oracleCount", "I", false)
  | 4 => ("BranchBets$State", "loanCount", "I", false)
  | 5 => ("BranchBets$State", "houseCoins", "I", false)
  | 6 => ("BranchBets$State", "history", "I", false)
  | 7 => ("BranchBets$State", "branches", "I", false)
  | 8 => ("BranchBets$State", "bets", "I", false)
  | _ => ("BranchBets$State", "seenAddresses", "J", false)
def tyX3 : Nat → FieldType := fun k => match k with
  | 0 => .array (.object "BranchBets$Oracle")
  | 1 => .array (.object "BranchBets$Loan")
  | 2 => .array .int
  | 3 => .int
  | 4 => .int
  | 5 => .int
  | 6 => .int
  | 7 => .int
  | 8 => .int
  | _ => .long
abbrev wsX30 : List Cond := u_ws RX3 TX3 10
theorem nmX3 : ∀ a, a < 10 → ∀ b, b < 10 → a ≠ b → (TX3 a).2.1 ≠ (TX3 b).2.1 := by decide +kernel
theorem tyX3_ok : ∀ k, k < 10 → parseFieldDescriptor (TX3 k).2.2.1 = some (tyX3 k) := by decide +kernel
abbrev cX3_init : ByteArray := prog_5_method_1_code
def yX3_init : MethodName := ⟨RX3, "<init>", "()V"⟩
abbrev cX3_copyFrom : ByteArray := prog_5_method_2_code
def yX3_copyFrom : MethodName := ⟨RX3, "copyFrom", "(LBranchBets$State;)V"⟩
abbrev cX3_sittersOf : ByteArray := prog_5_method_3_code
def yX3_sittersOf : MethodName := ⟨RX3, "sittersOf", "(I)I"⟩
abbrev cX3_lowestFreeSeat : ByteArray := prog_5_method_4_code
def yX3_lowestFreeSeat : MethodName := ⟨RX3, "lowestFreeSeat", "(I)I"⟩
abbrev cX3_isTaken : ByteArray := prog_5_method_5_code
def yX3_isTaken : MethodName := ⟨RX3, "isTaken", "(II)Z"⟩
abbrev cX3_seatedOracles : ByteArray := prog_5_method_6_code
def yX3_seatedOracles : MethodName := ⟨RX3, "seatedOracles", "()I"⟩
abbrev cX3_ruinedOracles : ByteArray := prog_5_method_7_code
def yX3_ruinedOracles : MethodName := ⟨RX3, "ruinedOracles", "()I"⟩
abbrev cX3_allCoins : ByteArray := prog_5_method_8_code
def yX3_allCoins : MethodName := ⟨RX3, "allCoins", "()I"⟩
abbrev cX3_richerThan : ByteArray := prog_5_method_9_code
def yX3_richerThan : MethodName := ⟨RX3, "richerThan", "(I)I"⟩
abbrev cX3_addLoan : ByteArray := prog_5_method_10_code
def yX3_addLoan : MethodName := ⟨RX3, "addLoan", "(III)I"⟩
abbrev cX3_debtsOf : ByteArray := prog_5_method_11_code
def yX3_debtsOf : MethodName := ⟨RX3, "debtsOf", "(I)I"⟩
abbrev cX3_claimsOf : ByteArray := prog_5_method_12_code
def yX3_claimsOf : MethodName := ⟨RX3, "claimsOf", "(I)I"⟩
abbrev cX3_hasSeen : ByteArray := prog_5_method_13_code
def yX3_hasSeen : MethodName := ⟨RX3, "hasSeen", "(I)Z"⟩
abbrev cX3_foretell : ByteArray := prog_5_method_14_code
def yX3_foretell : MethodName := ⟨RX3, "foretell", "(I)V"⟩
abbrev cX3_stakesOn : ByteArray := prog_5_method_15_code
def yX3_stakesOn : MethodName := ⟨RX3, "stakesOn", "(I)I"⟩
abbrev cX3_runBranch : ByteArray := prog_5_method_16_code
def yX3_runBranch : MethodName := ⟨RX3, "runBranch", "(II)I"⟩
abbrev cX3_settleBets : ByteArray := prog_5_method_17_code
def yX3_settleBets : MethodName := ⟨RX3, "settleBets", "(I)I"⟩
abbrev cX3_payCreditors : ByteArray := prog_5_method_18_code
def yX3_payCreditors : MethodName := ⟨RX3, "payCreditors", "(II)V"⟩
abbrev cX3_dropLoansPaidBack : ByteArray := prog_5_method_19_code
def yX3_dropLoansPaidBack : MethodName := ⟨RX3, "dropLoansPaidBack", "()V"⟩
abbrev cX3_keepRecords : ByteArray := prog_5_method_20_code
def yX3_keepRecords : MethodName := ⟨RX3, "keepRecords", "(I)V"⟩
abbrev cX3_learnFrom : ByteArray := prog_5_method_21_code
def yX3_learnFrom : MethodName := ⟨RX3, "learnFrom", "(II)V"⟩
def RX4 : String := "BranchBets$Text"
def TX4 : u_T := fun k => match k with
  | 0 => ("BranchBets$Text", "characters", "[C", true)
  | 1 => ("BranchBets$Text", "numbers", "[I", true)
  | 2 => ("BranchBets$Text", "length", "I", false)
  | 3 => ("BranchBets$Text", "start", "I", false)
  | 4 => ("BranchBets$Text", "end", "I", false)
  | 5 => ("BranchBets$Text", "word", "I", false)
  | 6 => ("BranchBets$Text", "reason", "I", false)
  | _ => ("BranchBets$Text", "cause", "I", false)
def tyX4 : Nat → FieldType := fun k => match k with
  | 0 => .array .char
  | 1 => .array .int
  | 2 => .int
  | 3 => .int
  | 4 => .int
  | 5 => .int
  | 6 => .int
  | _ => .int
abbrev wsX40 : List Cond := u_ws RX4 TX4 8
theorem nmX4 : ∀ a, a < 8 → ∀ b, b < 8 → a ≠ b → (TX4 a).2.1 ≠ (TX4 b).2.1 := by decide +kernel
theorem tyX4_ok : ∀ k, k < 8 → parseFieldDescriptor (TX4 k).2.2.1 = some (tyX4 k) := by decide +kernel
abbrev cX4_init : ByteArray := prog_6_method_1_code
def yX4_init : MethodName := ⟨RX4, "<init>", "()V"⟩
abbrev cX4_append : ByteArray := prog_6_method_2_code
def yX4_append : MethodName := ⟨RX4, "append", "(C)V"⟩
abbrev cX4_hasFault : ByteArray := prog_6_method_3_code
def yX4_hasFault : MethodName := ⟨RX4, "hasFault", "()Z"⟩
abbrev cX4_readOrder : ByteArray := prog_6_method_4_code
def yX4_readOrder : MethodName := ⟨RX4, "readOrder", "(I)V"⟩
abbrev cX4_readNumber : ByteArray := prog_6_method_5_code
def yX4_readNumber : MethodName := ⟨RX4, "readNumber", "(I)Z"⟩
abbrev cX4_checkRanges : ByteArray := prog_6_method_6_code
def yX4_checkRanges : MethodName := ⟨RX4, "checkRanges", "()V"⟩
abbrev cX4_endOfLetters : ByteArray := prog_6_method_7_code
def yX4_endOfLetters : MethodName := ⟨RX4, "endOfLetters", "(I)I"⟩
abbrev cX4_wordUpTo : ByteArray := prog_6_method_8_code
def yX4_wordUpTo : MethodName := ⟨RX4, "wordUpTo", "(I)I"⟩
abbrev cX4_isWord : ByteArray := prog_6_method_9_code
def yX4_isWord : MethodName := ⟨RX4, "isWord", "(Ljava/lang/String;I)Z"⟩
abbrev cX4_characterAt : ByteArray := prog_6_method_10_code
def yX4_characterAt : MethodName := ⟨RX4, "characterAt", "(I)C"⟩
abbrev cX4_isDigit : ByteArray := prog_6_method_11_code
def yX4_isDigit : MethodName := ⟨RX4, "isDigit", "(C)Z"⟩
def RX5 : String := "BranchBets"
def TX5 : u_T := fun k => match k with
  | 0 => ("BranchBets", "now", "LBranchBets$State;", true)
  | 1 => ("BranchBets", "trial", "LBranchBets$State;", true)
  | 2 => ("BranchBets", "past", "LBranchBets$Past;", true)
  | _ => ("BranchBets", "text", "LBranchBets$Text;", true)
def tyX5 : Nat → FieldType := fun k => match k with
  | 0 => .object "BranchBets$State"
  | 1 => .object "BranchBets$State"
  | 2 => .object "BranchBets$Past"
  | _ => .object "BranchBets$Text"
abbrev wsX50 : List Cond := u_ws RX5 TX5 4
theorem nmX5 : ∀ a, a < 4 → ∀ b, b < 4 → a ≠ b → (TX5 a).2.1 ≠ (TX5 b).2.1 := by decide +kernel
theorem tyX5_ok : ∀ k, k < 4 → parseFieldDescriptor (TX5 k).2.2.1 = some (tyX5 k) := by decide +kernel
abbrev cX5_init : ByteArray := prog_1_method_1_code
def yX5_init : MethodName := ⟨RX5, "<init>", "()V"⟩
abbrev cX5_set : ByteArray := prog_1_method_2_code
def yX5_set : MethodName := ⟨RX5, "set", "(II)I"⟩
abbrev cX5_oracle : ByteArray := prog_1_method_3_code
def yX5_oracle : MethodName := ⟨RX5, "oracle", "(III)I"⟩
abbrev cX5_seat : ByteArray := prog_1_method_4_code
def yX5_seat : MethodName := ⟨RX5, "seat", "(II)I"⟩
abbrev cX5_stand : ByteArray := prog_1_method_5_code
def yX5_stand : MethodName := ⟨RX5, "stand", "(I)I"⟩
abbrev cX5_give : ByteArray := prog_1_method_6_code
def yX5_give : MethodName := ⟨RX5, "give", "(II)I"⟩
abbrev cX5_lend : ByteArray := prog_1_method_7_code
def yX5_lend : MethodName := ⟨RX5, "lend", "(III)I"⟩
abbrev cX5_branch : ByteArray := prog_1_method_8_code
def yX5_branch : MethodName := ⟨RX5, "branch", "(II)I"⟩
abbrev cX5_oracleOf : ByteArray := prog_1_method_9_code
def yX5_oracleOf : MethodName := ⟨RX5, "oracleOf", "(II)I"⟩
abbrev cX5_counter : ByteArray := prog_1_method_10_code
def yX5_counter : MethodName := ⟨RX5, "counter", "(II)I"⟩
abbrev cX5_loanOf : ByteArray := prog_1_method_11_code
def yX5_loanOf : MethodName := ⟨RX5, "loanOf", "(II)I"⟩
abbrev cX5_aliases : ByteArray := prog_1_method_12_code
def yX5_aliases : MethodName := ⟨RX5, "aliases", "(II)I"⟩
abbrev cX5_share : ByteArray := prog_1_method_13_code
def yX5_share : MethodName := ⟨RX5, "share", "(I)I"⟩
abbrev cX5_rich : ByteArray := prog_1_method_14_code
def yX5_rich : MethodName := ⟨RX5, "rich", "(I)I"⟩
abbrev cX5_says : ByteArray := prog_1_method_15_code
def yX5_says : MethodName := ⟨RX5, "says", "(II)I"⟩
abbrev cX5_stake : ByteArray := prog_1_method_16_code
def yX5_stake : MethodName := ⟨RX5, "stake", "(II)I"⟩
abbrev cX5_odds : ByteArray := prog_1_method_17_code
def yX5_odds : MethodName := ⟨RX5, "odds", "(I)I"⟩
abbrev cX5_gain : ByteArray := prog_1_method_18_code
def yX5_gain : MethodName := ⟨RX5, "gain", "(III)I"⟩
abbrev cX5_doom : ByteArray := prog_1_method_19_code
def yX5_doom : MethodName := ⟨RX5, "doom", "(III)I"⟩
abbrev cX5_bestRow : ByteArray := prog_1_method_20_code
def yX5_bestRow : MethodName := ⟨RX5, "bestRow", "(IIII)I"⟩
abbrev cX5_count : ByteArray := prog_1_method_21_code
def yX5_count : MethodName := ⟨RX5, "count", "(I)I"⟩
abbrev cX5_undo : ByteArray := prog_1_method_22_code
def yX5_undo : MethodName := ⟨RX5, "undo", "()I"⟩
abbrev cX5_type : ByteArray := prog_1_method_23_code
def yX5_type : MethodName := ⟨RX5, "type", "(I)I"⟩
abbrev cX5_clearText : ByteArray := prog_1_method_24_code
def yX5_clearText : MethodName := ⟨RX5, "clearText", "()I"⟩
abbrev cX5_fault : ByteArray := prog_1_method_25_code
def yX5_fault : MethodName := ⟨RX5, "fault", "(I)I"⟩
abbrev cX5_play : ByteArray := prog_1_method_26_code
def yX5_play : MethodName := ⟨RX5, "play", "()I"⟩
abbrev cX5_isWithin : ByteArray := prog_1_method_27_code
def yX5_isWithin : MethodName := ⟨RX5, "isWithin", "(III)Z"⟩
abbrev cX5_isAddress : ByteArray := prog_1_method_28_code
def yX5_isAddress : MethodName := ⟨RX5, "isAddress", "(I)Z"⟩
abbrev cX5_isOracle : ByteArray := prog_1_method_29_code
def yX5_isOracle : MethodName := ⟨RX5, "isOracle", "(I)Z"⟩
abbrev cX5_mostNumberOf : ByteArray := prog_1_method_30_code
def yX5_mostNumberOf : MethodName := ⟨RX5, "mostNumberOf", "(I)I"⟩
abbrev cX5_takes : ByteArray := prog_1_method_31_code
def yX5_takes : MethodName := ⟨RX5, "takes", "(ILBranchBets$Oracle;)Z"⟩
abbrev cX5_bitsOfQuotient : ByteArray := prog_1_method_32_code
def yX5_bitsOfQuotient : MethodName := ⟨RX5, "bitsOfQuotient", "(II)I"⟩
abbrev cX5_purseBehind : ByteArray := prog_1_method_33_code
def yX5_purseBehind : MethodName := ⟨RX5, "purseBehind", "(IIII)I"⟩
abbrev cX5_doOrderRead : ByteArray := prog_1_method_34_code
def yX5_doOrderRead : MethodName := ⟨RX5, "doOrderRead", "()I"⟩
abbrev cX5_wayOf : ByteArray := prog_1_method_35_code
def yX5_wayOf : MethodName := ⟨RX5, "wayOf", "(III)I"⟩
def RX6 : String := "BranchBetsModel"
def TX6 : u_T := fun k => match k with
  | 0 => ("BranchBetsModel", "state", "[I", true)
  | 1 => ("BranchBetsModel", "kept", "[I", true)
  | 2 => ("BranchBetsModel", "states", "[I", true)
  | 3 => ("BranchBetsModel", "recorded", "I", false)
  | 4 => ("BranchBetsModel", "text", "[I", true)
  | 5 => ("BranchBetsModel", "textLength", "I", false)
  | 6 => ("BranchBetsModel", "takesPart", "[I", true)
  | 7 => ("BranchBetsModel", "said", "[I", true)
  | 8 => ("BranchBetsModel", "stakes", "[I", true)
  | 9 => ("BranchBetsModel", "purses", "[I", true)
  | 10 => ("BranchBetsModel", "begin", "I", false)
  | 11 => ("BranchBetsModel", "order", "I", false)
  | 12 => ("BranchBetsModel", "first", "I", false)
  | 13 => ("BranchBetsModel", "second", "I", false)
  | 14 => ("BranchBetsModel", "behind", "I", false)
  | 15 => ("BranchBetsModel", "reason", "I", false)
  | _ => ("BranchBetsModel", "cause", "I", false)
def tyX6 : Nat → FieldType := fun k => match k with
  | 0 => .array .int
  | 1 => .array .int
  | 2 => .array .int
  | 3 => .int
  | 4 => .array .int
  | 5 => .int
  | 6 => .array .int
  | 7 => .array .int
  | 8 => .array .int
  | 9 => .array .int
  | 10 => .int
  | 11 => .int
  | 12 => .int
  | 13 => .int
  | 14 => .int
  | 15 => .int
  | _ => .int
abbrev wsX60 : List Cond := u_ws RX6 TX6 17
theorem nmX6 : ∀ a, a < 17 → ∀ b, b < 17 → a ≠ b → (TX6 a).2.1 ≠ (TX6 b).2.1 := by decide +kernel
theorem tyX6_ok : ∀ k, k < 17 → parseFieldDescriptor (TX6 k).2.2.1 = some (tyX6 k) := by decide +kernel
abbrev cX6_init : ByteArray := prog_8_method_1_code
def yX6_init : MethodName := ⟨RX6, "<init>", "()V"⟩
abbrev cX6_copy : ByteArray := prog_8_method_3_code
def yX6_copy : MethodName := ⟨RX6, "copy", "([II[II)V"⟩
abbrev cX6_within : ByteArray := prog_8_method_4_code
def yX6_within : MethodName := ⟨RX6, "within", "(III)Z"⟩
abbrev cX6_record : ByteArray := prog_8_method_5_code
def yX6_record : MethodName := ⟨RX6, "record", "()V"⟩
abbrev cX6_isOracle : ByteArray := prog_8_method_6_code
def yX6_isOracle : MethodName := ⟨RX6, "isOracle", "(I)Z"⟩
abbrev cX6_isAddress : ByteArray := prog_8_method_7_code
def yX6_isAddress : MethodName := ⟨RX6, "isAddress", "(I)Z"⟩
abbrev cX6_isTaken : ByteArray := prog_8_method_8_code
def yX6_isTaken : MethodName := ⟨RX6, "isTaken", "(I)Z"⟩
abbrev cX6_part : ByteArray := prog_8_method_9_code
def yX6_part : MethodName := ⟨RX6, "part", "(II)I"⟩
abbrev cX6_setPart : ByteArray := prog_8_method_10_code
def yX6_setPart : MethodName := ⟨RX6, "setPart", "(III)V"⟩
abbrev cX6_addPart : ByteArray := prog_8_method_11_code
def yX6_addPart : MethodName := ⟨RX6, "addPart", "(III)V"⟩
abbrev cX6_loanPart : ByteArray := prog_8_method_12_code
def yX6_loanPart : MethodName := ⟨RX6, "loanPart", "(II)I"⟩
abbrev cX6_hasTable : ByteArray := prog_8_method_13_code
def yX6_hasTable : MethodName := ⟨RX6, "hasTable", "(I)Z"⟩
abbrev cX6_sizeOf : ByteArray := prog_8_method_14_code
def yX6_sizeOf : MethodName := ⟨RX6, "sizeOf", "(I)I"⟩
abbrev cX6_indexOf : ByteArray := prog_8_method_15_code
def yX6_indexOf : MethodName := ⟨RX6, "indexOf", "(II)I"⟩
abbrev cX6_counterOf : ByteArray := prog_8_method_16_code
def yX6_counterOf : MethodName := ⟨RX6, "counterOf", "(II)I"⟩
abbrev cX6_hasSeat : ByteArray := prog_8_method_17_code
def yX6_hasSeat : MethodName := ⟨RX6, "hasSeat", "(I)Z"⟩
abbrev cX6_isIn : ByteArray := prog_8_method_18_code
def yX6_isIn : MethodName := ⟨RX6, "isIn", "(I)Z"⟩
abbrev cX6_plainWord : ByteArray := prog_8_method_19_code
def yX6_plainWord : MethodName := ⟨RX6, "plainWord", "(II)I"⟩
abbrev cX6_wordOf : ByteArray := prog_8_method_20_code
def yX6_wordOf : MethodName := ⟨RX6, "wordOf", "(II)I"⟩
abbrev cX6_stakeOf : ByteArray := prog_8_method_21_code
def yX6_stakeOf : MethodName := ⟨RX6, "stakeOf", "(II)I"⟩
abbrev cX6_isSetting : ByteArray := prog_8_method_22_code
def yX6_isSetting : MethodName := ⟨RX6, "isSetting", "(II)Z"⟩
abbrev cX6_set : ByteArray := prog_8_method_23_code
def yX6_set : MethodName := ⟨RX6, "set", "(II)I"⟩
abbrev cX6_oracle : ByteArray := prog_8_method_24_code
def yX6_oracle : MethodName := ⟨RX6, "oracle", "(III)I"⟩
abbrev cX6_sitting : ByteArray := prog_8_method_25_code
def yX6_sitting : MethodName := ⟨RX6, "sitting", "(I)I"⟩
abbrev cX6_seat : ByteArray := prog_8_method_26_code
def yX6_seat : MethodName := ⟨RX6, "seat", "(II)I"⟩
abbrev cX6_stand : ByteArray := prog_8_method_27_code
def yX6_stand : MethodName := ⟨RX6, "stand", "(I)I"⟩
abbrev cX6_give : ByteArray := prog_8_method_28_code
def yX6_give : MethodName := ⟨RX6, "give", "(II)I"⟩
abbrev cX6_lend : ByteArray := prog_8_method_29_code
def yX6_lend : MethodName := ⟨RX6, "lend", "(III)I"⟩
abbrev cX6_paysBack : ByteArray := prog_8_method_30_code
def yX6_paysBack : MethodName := ⟨RX6, "paysBack", "(II)V"⟩
abbrev cX6_bets : ByteArray := prog_8_method_31_code
def yX6_bets : MethodName := ⟨RX6, "bets", "(I)I"⟩
abbrev cX6_learns : ByteArray := prog_8_method_32_code
def yX6_learns : MethodName := ⟨RX6, "learns", "(III)V"⟩
abbrev cX6_comes : ByteArray := prog_8_method_33_code
def yX6_comes : MethodName := ⟨RX6, "comes", "(II)I"⟩
abbrev cX6_branch : ByteArray := prog_8_method_34_code
def yX6_branch : MethodName := ⟨RX6, "branch", "(II)I"⟩
abbrev cX6_owes : ByteArray := prog_8_method_35_code
def yX6_owes : MethodName := ⟨RX6, "owes", "(II)I"⟩
abbrev cX6_oracleOf : ByteArray := prog_8_method_36_code
def yX6_oracleOf : MethodName := ⟨RX6, "oracleOf", "(II)I"⟩
abbrev cX6_counter : ByteArray := prog_8_method_37_code
def yX6_counter : MethodName := ⟨RX6, "counter", "(II)I"⟩
abbrev cX6_loanOf : ByteArray := prog_8_method_38_code
def yX6_loanOf : MethodName := ⟨RX6, "loanOf", "(II)I"⟩
abbrev cX6_aliases : ByteArray := prog_8_method_39_code
def yX6_aliases : MethodName := ⟨RX6, "aliases", "(II)I"⟩
abbrev cX6_floatBits : ByteArray := prog_8_method_40_code
def yX6_floatBits : MethodName := ⟨RX6, "floatBits", "(II)I"⟩
abbrev cX6_share : ByteArray := prog_8_method_41_code
def yX6_share : MethodName := ⟨RX6, "share", "(I)I"⟩
abbrev cX6_richer : ByteArray := prog_8_method_42_code
def yX6_richer : MethodName := ⟨RX6, "richer", "(I)I"⟩
abbrev cX6_rich : ByteArray := prog_8_method_43_code
def yX6_rich : MethodName := ⟨RX6, "rich", "(I)I"⟩
abbrev cX6_says : ByteArray := prog_8_method_44_code
def yX6_says : MethodName := ⟨RX6, "says", "(II)I"⟩
abbrev cX6_stake : ByteArray := prog_8_method_45_code
def yX6_stake : MethodName := ⟨RX6, "stake", "(II)I"⟩
abbrev cX6_odds : ByteArray := prog_8_method_46_code
def yX6_odds : MethodName := ⟨RX6, "odds", "(I)I"⟩
abbrev cX6_gain : ByteArray := prog_8_method_47_code
def yX6_gain : MethodName := ⟨RX6, "gain", "(III)I"⟩
abbrev cX6_doom : ByteArray := prog_8_method_48_code
def yX6_doom : MethodName := ⟨RX6, "doom", "(III)I"⟩
abbrev cX6_bestRow : ByteArray := prog_8_method_49_code
def yX6_bestRow : MethodName := ⟨RX6, "bestRow", "(IIII)I"⟩
abbrev cX6_count : ByteArray := prog_8_method_50_code
def yX6_count : MethodName := ⟨RX6, "count", "(I)I"⟩
abbrev cX6_undo : ByteArray := prog_8_method_51_code
def yX6_undo : MethodName := ⟨RX6, "undo", "()I"⟩
abbrev cX6_type : ByteArray := prog_8_method_52_code
def yX6_type : MethodName := ⟨RX6, "type", "(I)I"⟩
abbrev cX6_clearText : ByteArray := prog_8_method_53_code
def yX6_clearText : MethodName := ⟨RX6, "clearText", "()I"⟩
abbrev cX6_character : ByteArray := prog_8_method_54_code
def yX6_character : MethodName := ⟨RX6, "character", "(I)I"⟩
abbrev cX6_isLetter : ByteArray := prog_8_method_55_code
def yX6_isLetter : MethodName := ⟨RX6, "isLetter", "(I)Z"⟩
abbrev cX6_isWord : ByteArray := prog_8_method_56_code
def yX6_isWord : MethodName := ⟨RX6, "isWord", "(IIIII)Z"⟩
abbrev cX6_orderOf : ByteArray := prog_8_method_57_code
def yX6_orderOf : MethodName := ⟨RX6, "orderOf", "(I)I"⟩
abbrev cX6_number : ByteArray := prog_8_method_58_code
def yX6_number : MethodName := ⟨RX6, "number", "()I"⟩
abbrev cX6_isOfForm : ByteArray := prog_8_method_59_code
def yX6_isOfForm : MethodName := ⟨RX6, "isOfForm", "()Z"⟩
abbrev cX6_readsOrder : ByteArray := prog_8_method_60_code
def yX6_readsOrder : MethodName := ⟨RX6, "readsOrder", "()Z"⟩
abbrev cX6_hasFault : ByteArray := prog_8_method_61_code
def yX6_hasFault : MethodName := ⟨RX6, "hasFault", "()Z"⟩
abbrev cX6_fault : ByteArray := prog_8_method_62_code
def yX6_fault : MethodName := ⟨RX6, "fault", "(I)I"⟩
abbrev cX6_does : ByteArray := prog_8_method_63_code
def yX6_does : MethodName := ⟨RX6, "does", "()I"⟩
abbrev cX6_play : ByteArray := prog_8_method_64_code
def yX6_play : MethodName := ⟨RX6, "play", "()I"⟩
def RJ9 : String := "java/lang/Math"
def TJ9 : u_T := fun k => match k with
  | _ => ("", "", "", false)
def tyJ9 : Nat → FieldType := fun k => match k with
  | _ => .int
abbrev wsJ90 : List Cond := u_ws RJ9 TJ9 0
theorem nmJ9 : ∀ a, a < 0 → ∀ b, b < 0 → a ≠ b → (TJ9 a).2.1 ≠ (TJ9 b).2.1 := by decide +kernel
theorem tyJ9_ok : ∀ k, k < 0 → parseFieldDescriptor (TJ9 k).2.2.1 = some (tyJ9 k) := by decide +kernel
abbrev cJ9_max_7cf53 : ByteArray := prog_9_method_65_code
def yJ9_max_7cf53 : MethodName := ⟨RJ9, "max", "(II)I"⟩
abbrev cJ9_min_7cf53 : ByteArray := prog_9_method_69_code
def yJ9_min_7cf53 : MethodName := ⟨RJ9, "min", "(II)I"⟩
def RJ0 : String := "java/lang/String"
def TJ0 : u_T := fun k => match k with
  | _ => ("", "", "", false)
def tyJ0 : Nat → FieldType := fun k => match k with
  | _ => .int
abbrev wsJ00 : List Cond := u_ws RJ0 TJ0 0
theorem nmJ0 : ∀ a, a < 0 → ∀ b, b < 0 → a ≠ b → (TJ0 a).2.1 ≠ (TJ0 b).2.1 := by decide +kernel
theorem tyJ0_ok : ∀ k, k < 0 → parseFieldDescriptor (TJ0 k).2.2.1 = some (tyJ0 k) := by decide +kernel
abbrev cJ0_length_8abf5 : ByteArray := prog_10_method_54_code
def yJ0_length_8abf5 : MethodName := ⟨RJ0, "length", "()I"⟩
abbrev cJ0_charAt_5068e : ByteArray := prog_10_method_56_code
def yJ0_charAt_5068e : MethodName := ⟨RJ0, "charAt", "(I)C"⟩
abbrev cJ0_coder_7d493 : ByteArray := prog_10_method_152_code
def yJ0_coder_7d493 : MethodName := ⟨RJ0, "coder", "()B"⟩
abbrev cJ0_isLatin1_aae02 : ByteArray := prog_10_method_154_code
def yJ0_isLatin1_aae02 : MethodName := ⟨RJ0, "isLatin1", "()Z"⟩
abbrev cJ0_checkIndex_df160 : ByteArray := prog_10_method_155_code
def yJ0_checkIndex_df160 : MethodName := ⟨RJ0, "checkIndex", "(II)V"⟩
def RJ1 : String := "java/lang/StringLatin1"
def TJ1 : u_T := fun k => match k with
  | _ => ("", "", "", false)
def tyJ1 : Nat → FieldType := fun k => match k with
  | _ => .int
abbrev wsJ10 : List Cond := u_ws RJ1 TJ1 0
theorem nmJ1 : ∀ a, a < 0 → ∀ b, b < 0 → a ≠ b → (TJ1 a).2.1 ≠ (TJ1 b).2.1 := by decide +kernel
theorem tyJ1_ok : ∀ k, k < 0 → parseFieldDescriptor (TJ1 k).2.2.1 = some (tyJ1 k) := by decide +kernel
abbrev cJ1_charAt_3b067 : ByteArray := prog_11_method_2_code
def yJ1_charAt_3b067 : MethodName := ⟨RJ1, "charAt", "([BI)C"⟩
def RJ2 : String := "java/lang/StringUTF16"
def TJ2 : u_T := fun k => match k with
  | _ => ("", "", "", false)
def tyJ2 : Nat → FieldType := fun k => match k with
  | _ => .int
abbrev wsJ20 : List Cond := u_ws RJ2 TJ2 0
theorem nmJ2 : ∀ a, a < 0 → ∀ b, b < 0 → a ≠ b → (TJ2 a).2.1 ≠ (TJ2 b).2.1 := by decide +kernel
theorem tyJ2_ok : ∀ k, k < 0 → parseFieldDescriptor (TJ2 k).2.2.1 = some (tyJ2 k) := by decide +kernel
abbrev cJ2_getChar_3b067 : ByteArray := prog_12_method_5_code
def yJ2_getChar_3b067 : MethodName := ⟨RJ2, "getChar", "([BI)C"⟩
abbrev cJ2_length_9d52b : ByteArray := prog_12_method_6_code
def yJ2_length_9d52b : MethodName := ⟨RJ2, "length", "([B)I"⟩
abbrev cJ2_charAt_3b067 : ByteArray := prog_12_method_83_code
def yJ2_charAt_3b067 : MethodName := ⟨RJ2, "charAt", "([BI)C"⟩
abbrev cJ2_checkIndex_2214a : ByteArray := prog_12_method_91_code
def yJ2_checkIndex_2214a : MethodName := ⟨RJ2, "checkIndex", "(I[B)V"⟩
def RJ10 : String := "java/lang/System"
def TJ10 : u_T := fun k => match k with
  | _ => ("", "", "", false)
def tyJ10 : Nat → FieldType := fun k => match k with
  | _ => .int
abbrev wsJ100 : List Cond := u_ws RJ10 TJ10 0
theorem nmJ10 : ∀ a, a < 0 → ∀ b, b < 0 → a ≠ b → (TJ10 a).2.1 ≠ (TJ10 b).2.1 := by decide +kernel
theorem tyJ10_ok : ∀ k, k < 0 → parseFieldDescriptor (TJ10 k).2.2.1 = some (tyJ10 k) := by decide +kernel
def RJ3 : String := "jdk/internal/util/Preconditions"
def TJ3 : u_T := fun k => match k with
  | _ => ("", "", "", false)
def tyJ3 : Nat → FieldType := fun k => match k with
  | _ => .int
abbrev wsJ30 : List Cond := u_ws RJ3 TJ3 0
theorem nmJ3 : ∀ a, a < 0 → ∀ b, b < 0 → a ≠ b → (TJ3 a).2.1 ≠ (TJ3 b).2.1 := by decide +kernel
theorem tyJ3_ok : ∀ k, k < 0 → parseFieldDescriptor (TJ3 k).2.2.1 = some (tyJ3 k) := by decide +kernel
abbrev cJ3_checkIndex_8e157 : ByteArray := prog_14_method_11_code
def yJ3_checkIndex_8e157 : MethodName := ⟨RJ3, "checkIndex", "(IILjava/util/function/BiFunction;)I"⟩
def RL : String := "BranchBetsLaw"
abbrev cL_law : ByteArray := code
def yL_law : MethodName := ⟨RL, "law", "([I)Z"⟩
abbrev vwCl : List vw_C := [(RX0, TX0, 3), (RX1, TX1, 12), (RX2, TX2, 3), (RX3, TX3, 10), (RX4, TX4, 8), (RX5, TX5, 4), (RX6, TX6, 17)]

/-- the words that a callee can take over -/
def lw_gd : List Cond := lw_tbl.filter goodWord
theorem lw_in {w : Cond} (i : Nat) (h : tables_1[i]? = some w) (hg : goodWord w = true) : w ∈ lw_gd := List.mem_filter.mpr ⟨List.mem_append_right _ (List.mem_of_getElem? h), hg⟩
theorem lw_sel {w : Cond} (i : Nat) (h : (k2_sels lw_privs)[i]? = some w) (hg : goodWord w = true) : w ∈ lw_gd := List.mem_filter.mpr ⟨List.mem_append_left _ (List.mem_of_getElem? h), hg⟩
set_option maxRecDepth 100000 in
theorem lw_x0 : ∀ w ∈ u_ws RX0 TX0 3, w ∈ lw_gd := by decide +kernel
set_option maxRecDepth 100000 in
theorem lw_x1 : ∀ w ∈ u_ws RX1 TX1 12, w ∈ lw_gd := by decide +kernel
set_option maxRecDepth 100000 in
theorem lw_x2 : ∀ w ∈ u_ws RX2 TX2 3, w ∈ lw_gd := by decide +kernel
set_option maxRecDepth 100000 in
theorem lw_x3 : ∀ w ∈ u_ws RX3 TX3 10, w ∈ lw_gd := by decide +kernel
set_option maxRecDepth 100000 in
theorem lw_x4 : ∀ w ∈ u_ws RX4 TX4 8, w ∈ lw_gd := by decide +kernel
set_option maxRecDepth 100000 in
theorem lw_x5 : ∀ w ∈ u_ws RX5 TX5 4, w ∈ lw_gd := by decide +kernel
set_option maxRecDepth 100000 in
theorem lw_x6 : ∀ w ∈ u_ws RX6 TX6 17, w ∈ lw_gd := by decide +kernel
end
section
/-! the flat memory of both systems, the judgement G, its rules -/
/-- what the ints of a cell are (cell's number, slot), and the long of a cell -/
abbrev fM : Type := (Nat → Nat → Int32) × (Nat → Int64)
/-- where things are: classes' ids and slots, the cells' addresses, the array classes' ids, the addresses of statics -/
abbrev fX : Type := va_G × (Nat → Nat) × (Nat → ClassId) × (Nat → Nat)
def iS (s : Nat) : Nat := 6 + 24 * s
def iOs (s : Nat) : Nat := 7 + 24 * s
def iLs (s : Nat) : Nat := 8 + 24 * s
def iSet (s : Nat) : Nat := 9 + 24 * s
def iO (s i : Nat) : Nat := 10 + 24 * s + 2 * i
def iT (s i : Nat) : Nat := 11 + 24 * s + 2 * i
def iL (s l : Nat) : Nat := 22 + 24 * s + l
abbrev ra (X : fX) (k : Nat) : Value := .ref (X.2.1 k)
def encS (X : fX) (s r : Nat) (row : Nat → Int32) (e : Int64) : va_E :=
  if r = 0 then .inr (3, [ra X (iOs s), ra X (iLs s), ra X (iSet s), .int (row 3), .int (row 4), .int (row 5), .int (row 6), .int (row 7), .int (row 8), .long e])
  else if r = 1 then .inl (X.2.2.1 2, 6, .inr (.inr (.inr (.inr (fun j => some (X.2.1 (iO s j)))))))
  else if r = 2 then .inl (X.2.2.1 3, 8, .inr (.inr (.inr (.inr (fun j => some (X.2.1 (iL s j)))))))
  else if r = 3 then .inl (X.2.2.1 0, 3, .inl row)
  else if r < 16 then
    (if r % 2 = 0 then .inr (1, [.int (row 0), .int (row 1), .int (row 2), .int (row 3), .int (row 4), .int (row 5), .int (row 6), .int (row 7), .int (row 8), .int (row 9), .int (row 10), ra X (6 + 24 * s + r + 1)])
     else .inl (X.2.2.1 0, 32, .inl row))
  else .inr (0, [.int (row 0), .int (row 1), .int (row 2)])
def mlen (k : Nat) : Nat := if k = 151 then 349 else if k = 152 then 349 else if k = 153 then 1396 else if k = 154 then 80 else 6
def enc (X : fX) (k : Nat) (row : Nat → Int32) (e : Int64) : va_E :=
  if k = 0 then .inr (5, [ra X (iS 0), ra X (iS 1), ra X 1, ra X 3])
  else if k = 1 then .inr (2, [ra X 2, .int (row 1), .int (row 2)])
  else if k = 2 then .inl (X.2.2.1 4, 4, .inr (.inr (.inr (.inr (fun j => some (X.2.1 (iS (2 + j))))))))
  else if k = 3 then .inr (4, [ra X 4, ra X 5, .int (row 2), .int (row 3), .int (row 4), .int (row 5), .int (row 6), .int (row 7)])
  else if k = 4 then .inl (X.2.2.1 1, 80, .inl row)
  else if k = 5 then .inl (X.2.2.1 0, 2, .inl row)
  else if k < 150 then encS X ((k - 6) / 24) ((k - 6) % 24) row e
  else if k = 150 then .inr (6, [ra X 151, ra X 152, ra X 153, .int (row 3), ra X 154, .int (row 5), ra X 155, ra X 156, ra X 157, ra X 158, .int (row 10), .int (row 11), .int (row 12), .int (row 13), .int (row 14), .int (row 15), .int (row 16)])
  else .inl (X.2.2.1 0, mlen k, .inl row)
theorem enc_S (X : fX) {s : Nat} (hs : s < 6) (row : Nat → Int32) (e : Int64) : enc X (iS s) row e = .inr (3, [ra X (iOs s), ra X (iLs s), ra X (iSet s), .int (row 3), .int (row 4), .int (row 5), .int (row 6), .int (row 7), .int (row 8), .long e]) := by
  unfold enc iS
  rw [if_neg (by omega), if_neg (by omega), if_neg (by omega), if_neg (by omega), if_neg (by omega), if_neg (by omega), if_pos (by omega), show (6 + 24 * s - 6) / 24 = s by omega, show (6 + 24 * s - 6) % 24 = 0 by omega]
  unfold encS
  rw [if_pos rfl]
theorem enc_Os (X : fX) {s : Nat} (hs : s < 6) (row : Nat → Int32) (e : Int64) : enc X (iOs s) row e = .inl (X.2.2.1 2, 6, .inr (.inr (.inr (.inr (fun j => some (X.2.1 (iO s j))))))) := by
  unfold enc iOs
  rw [if_neg (by omega), if_neg (by omega), if_neg (by omega), if_neg (by omega), if_neg (by omega), if_neg (by omega), if_pos (by omega), show (7 + 24 * s - 6) / 24 = s by omega, show (7 + 24 * s - 6) % 24 = 1 by omega]
  unfold encS
  rw [if_neg (by omega), if_pos rfl]
theorem enc_Ls (X : fX) {s : Nat} (hs : s < 6) (row : Nat → Int32) (e : Int64) : enc X (iLs s) row e = .inl (X.2.2.1 3, 8, .inr (.inr (.inr (.inr (fun j => some (X.2.1 (iL s j))))))) := by
  unfold enc iLs
  rw [if_neg (by omega), if_neg (by omega), if_neg (by omega), if_neg (by omega), if_neg (by omega), if_neg (by omega), if_pos (by omega), show (8 + 24 * s - 6) / 24 = s by omega, show (8 + 24 * s - 6) % 24 = 2 by omega]
  unfold encS
  rw [if_neg (by omega), if_neg (by omega), if_pos rfl]
theorem enc_Set (X : fX) {s : Nat} (hs : s < 6) (row : Nat → Int32) (e : Int64) : enc X (iSet s) row e = .inl (X.2.2.1 0, 3, .inl row) := by
  unfold enc iSet
  rw [if_neg (by omega), if_neg (by omega), if_neg (by omega), if_neg (by omega), if_neg (by omega), if_neg (by omega), if_pos (by omega), show (9 + 24 * s - 6) / 24 = s by omega, show (9 + 24 * s - 6) % 24 = 3 by omega]
  unfold encS
  rw [if_neg (by omega), if_neg (by omega), if_neg (by omega), if_pos rfl]
theorem enc_O (X : fX) {s i : Nat} (hs : s < 6) (hi : i < 6) (row : Nat → Int32) (e : Int64) : enc X (iO s i) row e = .inr (1, [.int (row 0), .int (row 1), .int (row 2), .int (row 3), .int (row 4), .int (row 5), .int (row 6), .int (row 7), .int (row 8), .int (row 9), .int (row 10), ra X (iT s i)]) := by
  unfold enc iO iT
  rw [if_neg (by omega), if_neg (by omega), if_neg (by omega), if_neg (by omega), if_neg (by omega), if_neg (by omega), if_pos (by omega), show (10 + 24 * s + 2 * i - 6) / 24 = s by omega, show (10 + 24 * s + 2 * i - 6) % 24 = 4 + 2 * i by omega]
  unfold encS
  rw [if_neg (by omega), if_neg (by omega), if_neg (by omega), if_neg (by omega), if_pos (by omega), if_pos (by omega), show 6 + 24 * s + (4 + 2 * i) + 1 = 11 + 24 * s + 2 * i by omega]
theorem enc_T (X : fX) {s i : Nat} (hs : s < 6) (hi : i < 6) (row : Nat → Int32) (e : Int64) : enc X (iT s i) row e = .inl (X.2.2.1 0, 32, .inl row) := by
  unfold enc iT
  rw [if_neg (by omega), if_neg (by omega), if_neg (by omega), if_neg (by omega), if_neg (by omega), if_neg (by omega), if_pos (by omega), show (11 + 24 * s + 2 * i - 6) / 24 = s by omega, show (11 + 24 * s + 2 * i - 6) % 24 = 5 + 2 * i by omega]
  unfold encS
  rw [if_neg (by omega), if_neg (by omega), if_neg (by omega), if_neg (by omega), if_pos (by omega), if_neg (by omega)]
theorem enc_L (X : fX) {s i : Nat} (hs : s < 6) (hi : i < 8) (row : Nat → Int32) (e : Int64) : enc X (iL s i) row e = .inr (0, [.int (row 0), .int (row 1), .int (row 2)]) := by
  unfold enc iL
  rw [if_neg (by omega), if_neg (by omega), if_neg (by omega), if_neg (by omega), if_neg (by omega), if_neg (by omega), if_pos (by omega), show (22 + 24 * s + i - 6) / 24 = s by omega, show (22 + 24 * s + i - 6) % 24 = 16 + i by omega]
  unfold encS
  rw [if_neg (by omega), if_neg (by omega), if_neg (by omega), if_neg (by omega), if_neg (by omega)]
theorem iS_lt {s : Nat} (hs : s < 6) : iS s < 159 := by unfold iS; omega
theorem iOs_lt {s : Nat} (hs : s < 6) : iOs s < 159 := by unfold iOs; omega
theorem iLs_lt {s : Nat} (hs : s < 6) : iLs s < 159 := by unfold iLs; omega
theorem iSet_lt {s : Nat} (hs : s < 6) : iSet s < 159 := by unfold iSet; omega
theorem iO_lt {s i : Nat} (hs : s < 6) (hi : i < 6) : iO s i < 159 := by unfold iO; omega
theorem iT_lt {s i : Nat} (hs : s < 6) (hi : i < 6) : iT s i < 159 := by unfold iT; omega
theorem iL_lt {s i : Nat} (hs : s < 6) (hi : i < 8) : iL s i < 159 := by unfold iL; omega
/-- the world: a list of all cells -/
def wl (X : fX) (σ : fM) : va_W := (List.range 159).map (fun k => (X.2.1 k, enc X k (σ.1 k) (σ.2 k)))
theorem wl_get {X : fX} {σ : fM} {k : Nat} (hk : k < 159) : (wl X σ)[k]? = some (X.2.1 k, enc X k (σ.1 k) (σ.2 k)) := by
  simp [wl, hk]
theorem wl_set {X : fX} {σ σ' : fM} {k : Nat} {v : va_E} (hv : enc X k (σ'.1 k) (σ'.2 k) = v) (h1 : ∀ k', k' ≠ k → σ'.1 k' = σ.1 k') (h2 : ∀ k', k' ≠ k → σ'.2 k' = σ.2 k') : (wl X σ).set k (X.2.1 k, v) = wl X σ' := by
  apply List.ext_getElem?
  intro q
  by_cases hq : q = k
  · subst hq
    by_cases hl : q < 159
    · rw [List.getElem?_set_self (by simp [wl]; exact hl), wl_get hl, hv]
    · rw [List.getElem?_eq_none (by simp [wl]; omega), List.getElem?_eq_none (by simp [wl]; omega)]
  · rw [List.getElem?_set_ne (fun h => hq h.symm)]
    by_cases hl : q < 159
    · rw [wl_get hl, wl_get hl, h1 q hq, h2 q hq]
    · rw [List.getElem?_eq_none (by simp [wl]; omega), List.getElem?_eq_none (by simp [wl]; omega)]
/-- one int is put -/
def pu (σ : fM) (k j : Nat) (v : Int32) : fM := (fun k' j' => if k' = k ∧ j' = j then v else σ.1 k' j', σ.2)
/-- one long is put -/
def puL (σ : fM) (k : Nat) (v : Int64) : fM := (σ.1, fun k' => if k' = k then v else σ.2 k')
theorem pu_row (σ : fM) (k j : Nat) (v : Int32) : (pu σ k j v).1 k = fun j' => if j' = j then v else σ.1 k j' := by funext j'; simp [pu]
theorem pu_ne {σ : fM} {k j : Nat} {v : Int32} (k' : Nat) (h : k' ≠ k) : (pu σ k j v).1 k' = σ.1 k' := by funext j'; simp [pu, h]
/-- locals -/
def lk : List (Nat × Value) → Nat → Option Value
  | [], _ => none
  | q :: t, i => match Nat.beq q.1 i with
    | true => some q.2
    | false => lk t i
theorem lk_mem : ∀ (L : List (Nat × Value)) (i : Nat) (v : Value), lk L i = some v → (i, v) ∈ L
  | [], _, _, h => by cases h
  | q :: t, i, v, h => by
    unfold lk at h
    cases hb : Nat.beq q.1 i with
    | true =>
      rw [hb] at h
      have h1 := Nat.eq_of_beq_eq_true hb
      have h2 : q.2 = v := Option.some.inj h
      rw [← h1, ← h2]
      exact List.mem_cons_self
    | false =>
      rw [hb] at h
      exact List.mem_cons_of_mem _ (lk_mem t i v h)
theorem lk_has {ls : Array Slot} {nL : Nat} {L : List (Nat × Value)} (h : lv_has ls nL L) {i : Nat} {v : Value} (hk : lk L i = some v) : ls[i]? = some (.val v) := h.2.2 (i, v) (lk_mem L i v hk)
def ls1 (L : List (Nat × Value)) (i : Nat) (v : Value) : List (Nat × Value) := (i, v) :: L.filter (fun q => !(q.1 == i) && !(q.1 + 1 == i && q.2.category == 2))
def ls2 (L : List (Nat × Value)) (i : Nat) (v : Value) : List (Nat × Value) := (i, v) :: L.filter (fun q => !(q.1 == i) && (!(q.1 == i + 1) && !(q.1 + 1 == i && q.2.category == 2)))
def lsub (L : List (Nat × Value)) : List (Nat × Value) → Prop
  | [] => True
  | q :: t => lk L q.1 = some q.2 ∧ lsub L t
theorem lsub_has {ls : Array Slot} {nL : Nat} {L : List (Nat × Value)} (h : lv_has ls nL L) : ∀ (L' : List (Nat × Value)), lsub L L' → lv_has ls nL L'
  | [], _ => ⟨h.1, h.2.1, fun q hq => by cases hq⟩
  | q :: t, hs => by
    refine ⟨h.1, h.2.1, fun x hx => ?_⟩
    rcases List.mem_cons.mp hx with rfl | hx
    · exact lk_has h hs.1
    · exact (lsub_has h t hs.2).2.2 x hx
/-- array classes -/
def fty (X : fX) : List (ClassId × FieldType) := [(X.2.2.1 0, .int), (X.2.2.1 1, .char), (X.2.2.1 2, .object RX1), (X.2.2.1 3, .object RX0), (X.2.2.1 4, .object RX3)]
/-- the system's own cells -/
def fA (X : fX) : Addr → Prop := fun q => ∃ k, k < 159 ∧ q = X.2.1 k
def fAd (X : fX) (A : Addr → Prop) : Prop := (∀ i j, i < 159 → j < 159 → X.2.1 i = X.2.1 j → i = j) ∧ ∀ k, k < 159 → A (X.2.1 k)
theorem wl_len (X : fX) (σ : fM) : (wl X σ).length = 159 := by simp [wl]
theorem wl_inv {X : fX} {σ : fM} {k : Nat} {q : Nat × va_E} (h : (wl X σ)[k]? = some q) : k < 159 ∧ q = (X.2.1 k, enc X k (σ.1 k) (σ.2 k)) := by
  have hk : k < 159 := by
    rcases Nat.lt_or_ge k 159 with h1 | h1
    · exact h1
    · rw [List.getElem?_eq_none (by rw [wl_len]; exact h1)] at h; cases h
  rw [wl_get hk] at h
  exact ⟨hk, (Option.some.inj h).symm⟩
theorem wl_D {X : fX} {A : Addr → Prop} (h : fAd X A) (σ : fM) : va_D A (wl X σ) := by
  refine ⟨fun i j p q hi hj e => ?_, fun k q hk => ?_⟩
  · obtain ⟨h1, rfl⟩ := wl_inv hi
    obtain ⟨h2, rfl⟩ := wl_inv hj
    exact h.1 i j h1 h2 e
  · obtain ⟨h1, rfl⟩ := wl_inv hk
    exact h.2 k h1
/-- what stands beside the cells: static arrays, texts, links among nest mates -/
def fZ0 (X : fX) (A : Addr → Prop) (U : State) (H : Heap) : Prop :=
  (va_Z "BranchBets" "SETTING_LEAST" "[I" (.ref (X.2.2.2 0)) A U H ∧ va_T .int (X.2.2.2 0) 3 (fun j => .int (if j = 0 then 1 else 0)) A U H) ∧
  (va_Z "BranchBets" "SETTING_MOST" "[I" (.ref (X.2.2.2 1)) A U H ∧ va_T .int (X.2.2.2 1) 3 (fun j => .int (if j = 2 then 100 else 50)) A U H) ∧
  vk_S 5 [4, 4, 4, 4, 3] [[116, 97, 107, 101], [115, 107, 105, 112], [102, 108, 105, 112], [108, 111, 111, 112], [99, 117, 116]] (fun i => X.2.2.2 (2 + i)) (fun i => X.2.2.2 (7 + i)) A U H ∧
  va_Z "java/lang/String" "COMPACT_STRINGS" "Z" (.int 1) A U H ∧ va_Zq "jdk/internal/util/Preconditions" "SIOOBE_FORMATTER" "Ljava/util/function/BiFunction;" A U H
def fZ1 (X : fX) (U : State) : Prop :=
  (va_Nw (.methodLinkNest "BranchBets$Text" 70 yX5_isWithin "BranchBets") U ∧ va_Nw (.methodLinkNest "BranchBets$Text" 74 yX5_isAddress "BranchBets") U) ∧
  (va_Nw (.fieldLinkNest "BranchBets$Text" 64 "BranchBets" "SETTING_LEAST" "[I" "BranchBets") U ∧ va_Nw (.fieldLinkNest "BranchBets$Text" 67 "BranchBets" "SETTING_MOST" "[I" "BranchBets") U) ∧
  (vk_R "BranchBets$Text" 77 "take" (X.2.2.2 2) U ∧ vk_R "BranchBets$Text" 83 "skip" (X.2.2.2 3) U ∧ vk_R "BranchBets$Text" 85 "flip" (X.2.2.2 4) U ∧ vk_R "BranchBets$Text" 87 "loop" (X.2.2.2 5) U ∧ vk_R "BranchBets$Text" 89 "cut" (X.2.2.2 6) U)
def fZ (X : fX) (A : Addr → Prop) (U : State) (H : Heap) : Prop := fZ0 X A U H ∧ fZ1 X U
theorem fZ0.kept {X : fX} {A : Addr → Prop} {U : State} {H H1 : Heap} (h : fZ0 X A U H) (hq : ∀ a : Nat, a < H.size → ¬ A a → H1[a]? = H[a]?) : fZ0 X A U H1 :=
  ⟨⟨h.1.1.kept hq, h.1.2.kept hq⟩, ⟨h.2.1.1.kept hq, h.2.1.2.kept hq⟩, h.2.2.1.kept hq, h.2.2.2.1.kept hq, h.2.2.2.2.kept hq⟩
theorem fZ0.moved {X : fX} {A : Addr → Prop} {u U : State} {H : Heap} (hvm : u.vm.Alike U.vm) (h : fZ0 X A u H) : fZ0 X A U H :=
  ⟨⟨h.1.1.moved hvm, h.1.2.moved hvm⟩, ⟨h.2.1.1.moved hvm, h.2.1.2.moved hvm⟩, h.2.2.1.moved hvm, h.2.2.2.1.moved hvm, h.2.2.2.2.moved hvm⟩
theorem fZ0.narrow {X : fX} {A B : Addr → Prop} {U : State} {H : Heap} (h : fZ0 X A U H) (hAB : ∀ q, B q → A q) : fZ0 X B U H :=
  ⟨⟨h.1.1.narrow hAB, h.1.2.narrow hAB⟩, ⟨h.2.1.1.narrow hAB, h.2.1.2.narrow hAB⟩, h.2.2.1.narrow hAB, h.2.2.2.1.narrow hAB, h.2.2.2.2.narrow hAB⟩
theorem fZ1.warm {X : fX} {s U : State} (hW : s.WarmedH U.vm) (h : fZ1 X s) : fZ1 X U :=
  ⟨⟨va_Nw.warmM hW h.1.1, va_Nw.warmM hW h.1.2⟩, ⟨va_Nw.warmF hW h.2.1.1, va_Nw.warmF hW h.2.1.2⟩, h.2.2.1.warm hW, h.2.2.2.1.warm hW, h.2.2.2.2.1.warm hW, h.2.2.2.2.2.1.warm hW, h.2.2.2.2.2.2.warm hW⟩
theorem fZ1.same {X : fX} {u U : State} (hv : U.vm = u.vm) (h : fZ1 X u) : fZ1 X U :=
  ⟨⟨va_Nw.same rfl hv.symm h.1.1, va_Nw.same rfl hv.symm h.1.2⟩, ⟨va_Nw.same rfl hv.symm h.2.1.1, va_Nw.same rfl hv.symm h.2.1.2⟩, h.2.2.1.same hv, h.2.2.2.1.same hv, h.2.2.2.2.1.same hv, h.2.2.2.2.2.1.same hv, h.2.2.2.2.2.2.same hv⟩
/-- a method's start: the arguments, the world, and what stands beside it -/
def fI (X : fX) (σ : fM) (U : State) : Prop := va_P X.1 vwCl (wl X σ) U.heap ∧ va_K X.1 vwCl (fty X) U ∧ fAd X (fA X) ∧ fZ X (fA X) U U.heap
def fPc (X : fX) (av : List Value) (σ : fM) : Array Value → State → Prop := fun v U => v = av.toArray ∧ fI X σ U
theorem fPc_blind (X : fX) (av : List Value) (σ : fM) : FrameBlind (fPc X av σ) := fun a U g mk h => by
  obtain ⟨h0, h1, h2, h3, h4, h5⟩ := h
  exact ⟨h0, h1, va_K.moved (u := U) (U := U.calling g mk a) (Vm.Alike.refl U.vm) h2, h3, fZ0.moved (u := U) (U := U.calling g mk a) (Vm.Alike.refl U.vm) h4, fZ1.same (u := U) (U := U.calling g mk a) rfl h5⟩
/-- a method's end: its answer and the memory behind it -/
def fQc (X : fX) (v : Option Value) (σ : fM) : Array Value → State → Outcome → State → Prop := fun _ st oc t => (oc = .returned v ∧ va_P X.1 vwCl (wl X σ) t.heap) ∧ va_F (fA X) st t
abbrev fT (y : MethodName) (cc : ByteArray) (mL : Nat) (ret : Option FieldType) : List Cond := .code y cc mL ret :: lw_gd
abbrev fR (d : Nat) : Room := { frames := d, cells := 0, slots := 0, locals := 30 * d }
/-- the contract: with the arguments av over the memory σ the method y answers v and leaves the memory σ' -/
def Ct (l : Launch) (X : fX) (y : MethodName) (cc : ByteArray) (mL : Nat) (ret : Option FieldType) (d : Nat) (av : List Value) (σ : fM) (v : Option Value) (σ' : fM) : Prop :=
  Met l y (fT y cc mL ret) (fR d) (fPc X av σ) (fQc X v σ') 0 0 (fA X)
/-- the place of a walk -/
abbrev fC : Type := Program × Launch × Env × Room × State × MethodId × Array Value × List Frame × Method × Code × (Addr → Prop) × Nat × Nat × (State → Prop) × Nat
abbrev xp (x : fC) : Program := x.1
abbrev xl (x : fC) : Launch := x.2.1
abbrev xe (x : fC) : Env := x.2.2.1
abbrev xR (x : fC) : Room := x.2.2.2.1
abbrev xs (x : fC) : State := x.2.2.2.2.1
abbrev xm (x : fC) : MethodId := x.2.2.2.2.2.1
abbrev xa (x : fC) : Array Value := x.2.2.2.2.2.2.1
abbrev xb (x : fC) : List Frame := x.2.2.2.2.2.2.2.1
abbrev xM (x : fC) : Method := x.2.2.2.2.2.2.2.2.1
abbrev xc (x : fC) : Code := x.2.2.2.2.2.2.2.2.2.1
abbrev xA (x : fC) : Addr → Prop := x.2.2.2.2.2.2.2.2.2.2.1
abbrev xk (x : fC) : Nat := x.2.2.2.2.2.2.2.2.2.2.2.1
abbrev xn (x : fC) : Nat := x.2.2.2.2.2.2.2.2.2.2.2.2.1
abbrev xQ (x : fC) : State → Prop := x.2.2.2.2.2.2.2.2.2.2.2.2.2.1
abbrev xL (x : fC) : Nat := x.2.2.2.2.2.2.2.2.2.2.2.2.2.2
def G (x : fC) (X : fX) (σ : fM) (L : List (Nat × Value)) (st : List Value) (pc : Nat) : Prop :=
  ∀ (H : Heap) (locs : List Loc) (ls : Array Slot), va_P X.1 vwCl (wl X σ) H → va_S (xA x) (xs x).heap H locs → lv_has ls (xL x) L →
    W (xp x) (xl x) (xe x) (xR x) (xs x) (xm x) (xa x) (xb x) (xM x) (xc x) H locs (xk x) (xn x) (xQ x) (F0 (xm x) pc ls st)
/-- what a walk may use: the machine, the code, the words, the classes, the room -/
def Ok (l : Launch) (x : fC) (X : fX) (cc : ByteArray) (own : String) (d : Nat) : Prop :=
  (xl x = l ∧ (xp x).tables.exec = Jvm.exec ∧ (xc x).code = cc ∧ (xc x).maxLocals = xL x ∧ (xs x).vm.findClass own = some (xm x).cls) ∧ (∀ w ∈ lw_gd, w.before (xa x) (xs x) = true) ∧
  va_K X.1 vwCl (fty X) (xs x) ∧ fAd X (xA x) ∧ fZ X (xA x) (xs x) (xs x).heap ∧ d ≤ (xR x).frames ∧ 30 * d ≤ (xR x).locals ∧ xk x ≤ (xR x).cells ∧ xn x ≤ (xR x).slots
/-- a method's end -/
def Rt (x : fC) (X : fX) (ret : Option FieldType) (v : Option Value) (σ' : fM) : Prop :=
  (xM x).sig.returnType = ret ∧ (xM x).locks = false ∧ xA x = fA X ∧ xQ x = MQ (xb x) (fQc X v σ') (xa x) (xs x) (xk x) (xn x) (fA X)



theorem Ok.hx {l : Launch} {x : fC} {X : fX} {cc : ByteArray} {own : String} {d : Nat} (h : Ok l x X cc own d) : (xp x).tables.exec = Jvm.exec := h.1.2.1
theorem Ok.hb {l : Launch} {x : fC} {X : fX} {cc : ByteArray} {own : String} {d : Nat} (h : Ok l x X cc own d) : (xc x).code = cc := h.1.2.2.1
theorem Ok.hml {l : Launch} {x : fC} {X : fX} {cc : ByteArray} {own : String} {d : Nat} (h : Ok l x X cc own d) : (xc x).maxLocals = xL x := h.1.2.2.2.1
theorem Ok.ho {l : Launch} {x : fC} {X : fX} {cc : ByteArray} {own : String} {d : Nat} (h : Ok l x X cc own d) : (xs x).vm.findClass own = some (xm x).cls := h.1.2.2.2.2
theorem Ok.hts {l : Launch} {x : fC} {X : fX} {cc : ByteArray} {own : String} {d : Nat} (h : Ok l x X cc own d) : ∀ w ∈ lw_gd, w.before (xa x) (xs x) = true := h.2.1
theorem Ok.hK {l : Launch} {x : fC} {X : fX} {cc : ByteArray} {own : String} {d : Nat} (h : Ok l x X cc own d) : va_K X.1 vwCl (fty X) (xs x) := h.2.2.1
theorem Ok.hA {l : Launch} {x : fC} {X : fX} {cc : ByteArray} {own : String} {d : Nat} (h : Ok l x X cc own d) : fAd X (xA x) := h.2.2.2.1
theorem Ok.hZ {l : Launch} {x : fC} {X : fX} {cc : ByteArray} {own : String} {d : Nat} (h : Ok l x X cc own d) : fZ X (xA x) (xs x) (xs x).heap := h.2.2.2.2.1
theorem Ok.hF {l : Launch} {x : fC} {X : fX} {cc : ByteArray} {own : String} {d : Nat} (h : Ok l x X cc own d) : d ≤ (xR x).frames ∧ 30 * d ≤ (xR x).locals := ⟨h.2.2.2.2.2.1, h.2.2.2.2.2.2.1⟩
theorem Ok.hC {l : Launch} {x : fC} {X : fX} {cc : ByteArray} {own : String} {d : Nat} (h : Ok l x X cc own d) : xk x ≤ (xR x).cells ∧ xn x ≤ (xR x).slots := h.2.2.2.2.2.2.2
/-- a contract out of its walk -/
theorem Ct.of {l : Launch} {X : fX} {y : MethodName} {cc : ByteArray} {mL : Nat} {ret : Option FieldType} {d : Nat} {av : List Value} {σ : fM} {v : Option Value} {σ' : fM} (own : String) (hown : y.cls = own) (hy : plainName y.cls = true) (hlen : (lg_sl av).length ≤ mL)
    (body : ∀ x : fC, xL x = mL → Ok l x X cc own d → Rt x X ret v σ' → G x X σ (lv_args 0 av) [] 0) : Ct l X y cc mL ret d av σ v σ' := by
  refine Met.ofW (cc := cc) (maxL := mL) (ret := ret) hy rfl ?_
  intro p e s m args below meth c s₁ B hml hv
  obtain ⟨rfl, hP, hK, hAd, hZ⟩ := hv
  have hts := atoms_spec (ws := fT y cc mL ret) B.pre
  have ho : s.vm.findClass own = some m.cls := hown ▸ findClass_of_methodNamed B.named
  rw [lg_entry_eq]
  exact body (p, l, e, fR d, s, m, av.toArray, below, meth, c, fA X, 0, 0, MQ below (fQc X v σ') av.toArray s 0 0 (fA X), mL) rfl ⟨⟨rfl, B.exec, B.bytes, hml, ho⟩, fun w hw => hts w (List.mem_cons_of_mem _ hw), hK, hAd, hZ, Nat.le_refl _, Nat.le_refl _, Nat.le_refl _, Nat.le_refl _⟩ ⟨B.returns, B.notSynchronized, rfl, rfl⟩ s.heap [] _ hP va_S.rf (lv_entry av hlen)
section RULES
variable {l : Launch} {x : fC} {X : fX} {σ : fM} {L : List (Nat × Value)} {st : List Value} {pc : Nat} {cc : ByteArray} {own : String} {d : Nat}
theorem g_sub (L' : List (Nat × Value)) (hs : lsub L L') (k : G x X σ L' st pc) : G x X σ L st pc := fun H locs ls hP hS hl => k H locs ls hP hS (lsub_has hl L' hs)
theorem g_mem (σ' : fM) (hs : σ = σ') (k : G x X σ' L st pc) : G x X σ L st pc := hs ▸ k
theorem g_st (st' : List Value) (hs : st = st') (k : G x X σ L st' pc) : G x X σ L st pc := hs ▸ k

theorem g_iadd (h : Ok l x X cc own d) {a b : Int32} (hd : decode cc pc = .ok (.iadd, 1)) (k : G x X σ L (.int (a + b) :: st) (pc + 1)) : G x X σ L (.int b :: .int a :: st) pc := fun H locs ls hP hS hl => lv_iadd h.hx h.hb hd (k H locs ls hP hS hl)
theorem g_isub (h : Ok l x X cc own d) {a b : Int32} (hd : decode cc pc = .ok (.isub, 1)) (k : G x X σ L (.int (a - b) :: st) (pc + 1)) : G x X σ L (.int b :: .int a :: st) pc := fun H locs ls hP hS hl => lv_isub h.hx h.hb hd (k H locs ls hP hS hl)
theorem g_imul (h : Ok l x X cc own d) {a b : Int32} (hd : decode cc pc = .ok (.imul, 1)) (k : G x X σ L (.int (a * b) :: st) (pc + 1)) : G x X σ L (.int b :: .int a :: st) pc := fun H locs ls hP hS hl => lv_imul h.hx h.hb hd (k H locs ls hP hS hl)
theorem g_iand (h : Ok l x X cc own d) {a b : Int32} (hd : decode cc pc = .ok (.iand, 1)) (k : G x X σ L (.int (a &&& b) :: st) (pc + 1)) : G x X σ L (.int b :: .int a :: st) pc := fun H locs ls hP hS hl => lv_iand h.hx h.hb hd (k H locs ls hP hS hl)
theorem g_ior (h : Ok l x X cc own d) {a b : Int32} (hd : decode cc pc = .ok (.ior, 1)) (k : G x X σ L (.int (a ||| b) :: st) (pc + 1)) : G x X σ L (.int b :: .int a :: st) pc := fun H locs ls hP hS hl => lv_ior h.hx h.hb hd (k H locs ls hP hS hl)
theorem g_ixor (h : Ok l x X cc own d) {a b : Int32} (hd : decode cc pc = .ok (.ixor, 1)) (k : G x X σ L (.int (a ^^^ b) :: st) (pc + 1)) : G x X σ L (.int b :: .int a :: st) pc := fun H locs ls hP hS hl => lv_ixor h.hx h.hb hd (k H locs ls hP hS hl)
theorem g_idiv (h : Ok l x X cc own d) {a b : Int32} (hd : decode cc pc = .ok (.idiv, 1)) (hne : ¬ b = 0) (k : G x X σ L (.int (a / b) :: st) (pc + 1)) : G x X σ L (.int b :: .int a :: st) pc := fun H locs ls hP hS hl => lv_idiv h.hx h.hb hd hne (k H locs ls hP hS hl)
theorem g_irem (h : Ok l x X cc own d) {a b : Int32} (hd : decode cc pc = .ok (.irem, 1)) (hne : ¬ b = 0) (k : G x X σ L (.int (a - a / b * b) :: st) (pc + 1)) : G x X σ L (.int b :: .int a :: st) pc := fun H locs ls hP hS hl => lv_irem h.hx h.hb hd hne (k H locs ls hP hS hl)
theorem g_ineg (h : Ok l x X cc own d) {a : Int32} (hd : decode cc pc = .ok (.ineg, 1)) (k : G x X σ L (.int (-a) :: st) (pc + 1)) : G x X σ L (.int a :: st) pc := fun H locs ls hP hS hl => lv_ineg h.hx h.hb hd (k H locs ls hP hS hl)
theorem g_ladd (h : Ok l x X cc own d) {a b : Int64} (hd : decode cc pc = .ok (.ladd, 1)) (k : G x X σ L (.long (a + b) :: st) (pc + 1)) : G x X σ L (.long b :: .long a :: st) pc := fun H locs ls hP hS hl => lv_ladd h.hx h.hb hd (k H locs ls hP hS hl)
theorem g_lsub (h : Ok l x X cc own d) {a b : Int64} (hd : decode cc pc = .ok (.lsub, 1)) (k : G x X σ L (.long (a - b) :: st) (pc + 1)) : G x X σ L (.long b :: .long a :: st) pc := fun H locs ls hP hS hl => lv_lsub h.hx h.hb hd (k H locs ls hP hS hl)
theorem g_lmul (h : Ok l x X cc own d) {a b : Int64} (hd : decode cc pc = .ok (.lmul, 1)) (k : G x X σ L (.long (a * b) :: st) (pc + 1)) : G x X σ L (.long b :: .long a :: st) pc := fun H locs ls hP hS hl => lv_lmul h.hx h.hb hd (k H locs ls hP hS hl)
theorem g_land (h : Ok l x X cc own d) {a b : Int64} (hd : decode cc pc = .ok (.land, 1)) (k : G x X σ L (.long (a &&& b) :: st) (pc + 1)) : G x X σ L (.long b :: .long a :: st) pc := fun H locs ls hP hS hl => lv_land h.hx h.hb hd (k H locs ls hP hS hl)
theorem g_lor (h : Ok l x X cc own d) {a b : Int64} (hd : decode cc pc = .ok (.lor, 1)) (k : G x X σ L (.long (a ||| b) :: st) (pc + 1)) : G x X σ L (.long b :: .long a :: st) pc := fun H locs ls hP hS hl => lv_lor h.hx h.hb hd (k H locs ls hP hS hl)
theorem g_ldiv (h : Ok l x X cc own d) {a b : Int64} (hd : decode cc pc = .ok (.ldiv, 1)) (hne : ¬ b = 0) (k : G x X σ L (.long (a / b) :: st) (pc + 1)) : G x X σ L (.long b :: .long a :: st) pc := fun H locs ls hP hS hl => lv_ldiv h.hx h.hb hd hne (k H locs ls hP hS hl)
theorem g_lrem (h : Ok l x X cc own d) {a b : Int64} (hd : decode cc pc = .ok (.lrem, 1)) (hne : ¬ b = 0) (k : G x X σ L (.long (a - a / b * b) :: st) (pc + 1)) : G x X σ L (.long b :: .long a :: st) pc := fun H locs ls hP hS hl => lv_lrem h.hx h.hb hd hne (k H locs ls hP hS hl)
theorem g_lcmp (h : Ok l x X cc own d) {a b : Int64} (hd : decode cc pc = .ok (.lcmp, 1)) (k : G x X σ L (.int (lg_cmp a b) :: st) (pc + 1)) : G x X σ L (.long b :: .long a :: st) pc := fun H locs ls hP hS hl => W.lcmp h.hx h.hb hd (k H locs ls hP hS hl)
theorem g_ishl (h : Ok l x X cc own d) {a b : Int32} (hd : decode cc pc = .ok (.ishl, 1)) (k : G x X σ L (.int (a <<< (b &&& 31)) :: st) (pc + 1)) : G x X σ L (.int b :: .int a :: st) pc := fun H locs ls hP hS hl => lv_ishl h.hx h.hb hd (k H locs ls hP hS hl)
theorem g_ishr (h : Ok l x X cc own d) {a b : Int32} (hd : decode cc pc = .ok (.ishr, 1)) (k : G x X σ L (.int (a >>> (b &&& 31)) :: st) (pc + 1)) : G x X σ L (.int b :: .int a :: st) pc := fun H locs ls hP hS hl => lv_ishr h.hx h.hb hd (k H locs ls hP hS hl)
theorem g_lshl (h : Ok l x X cc own d) {a : Int64} {b : Int32} (hd : decode cc pc = .ok (.lshl, 1)) (k : G x X σ L (.long (a <<< (b.toInt64 &&& 63)) :: st) (pc + 1)) : G x X σ L (.int b :: .long a :: st) pc := fun H locs ls hP hS hl => lv_lshl h.hx h.hb hd rfl (k H locs ls hP hS hl)
theorem g_lushr (h : Ok l x X cc own d) {a : Int64} {b : Int32} (hd : decode cc pc = .ok (.lushr, 1)) (k : G x X σ L (.long ((a.toUInt64 >>> (b.toInt64.toUInt64 &&& Int64.toUInt64 63)).toInt64) :: st) (pc + 1)) : G x X σ L (.int b :: .long a :: st) pc := fun H locs ls hP hS hl => lv_lushr h.hx h.hb hd rfl (k H locs ls hP hS hl)
theorem g_i2l (h : Ok l x X cc own d) {a : Int32} (hd : decode cc pc = .ok (.i2l, 1)) (k : G x X σ L (.long a.toInt64 :: st) (pc + 1)) : G x X σ L (.int a :: st) pc := fun H locs ls hP hS hl => lv_i2l h.hx h.hb hd rfl (k H locs ls hP hS hl)
theorem g_l2i (h : Ok l x X cc own d) {a : Int64} (hd : decode cc pc = .ok (.l2i, 1)) (k : G x X σ L (.int a.toInt32 :: st) (pc + 1)) : G x X σ L (.long a :: st) pc := fun H locs ls hP hS hl => lv_l2i h.hx h.hb hd rfl (k H locs ls hP hS hl)
theorem g_i2c (h : Ok l x X cc own d) {a : Int32} (hd : decode cc pc = .ok (.i2c, 1)) (k : G x X σ L (.int (a.toUInt32 % 65536).toInt32 :: st) (pc + 1)) : G x X σ L (.int a :: st) pc := fun H locs ls hP hS hl => lv_i2c h.hx h.hb hd rfl (k H locs ls hP hS hl)
theorem g_iconst (h : Ok l x X cc own d) {n : Int} (hd : decode cc pc = .ok (.iconst n, 1)) {v : Int32} (hv : Int32.ofInt n = v) (k : G x X σ L (.int v :: st) (pc + 1)) : G x X σ L (st) pc := fun H locs ls hP hS hl => lv_iconst h.hx h.hb hd hv (k H locs ls hP hS hl)
theorem g_bipush (h : Ok l x X cc own d) {n : Int} (hd : decode cc pc = .ok (.bipush n, 2)) {v : Int32} (hv : (Int8.ofInt n).toInt32 = v) (k : G x X σ L (.int v :: st) (pc + 2)) : G x X σ L (st) pc := fun H locs ls hP hS hl => lv_bipush h.hx h.hb hd hv (k H locs ls hP hS hl)
theorem g_sipush (h : Ok l x X cc own d) {n : Int} (hd : decode cc pc = .ok (.sipush n, 3)) {v : Int32} (hv : (Int16.ofInt n).toInt32 = v) (k : G x X σ L (.int v :: st) (pc + 3)) : G x X σ L (st) pc := fun H locs ls hP hS hl => lv_sipush h.hx h.hb hd hv (k H locs ls hP hS hl)
theorem g_lconst (h : Ok l x X cc own d) {n : Fin 2} (hd : decode cc pc = .ok (.lconst n, 1)) {v : Int64} (hv : Int64.ofNat (n : Nat) = v) (k : G x X σ L (.long v :: st) (pc + 1)) : G x X σ L (st) pc := fun H locs ls hP hS hl => lv_lconst h.hx h.hb hd hv (k H locs ls hP hS hl)
theorem g_dup (h : Ok l x X cc own d) {a : Value} (hd : decode cc pc = .ok (.dup, 1)) (hc : a.category = 1) (k : G x X σ L (a :: a :: st) (pc + 1)) : G x X σ L (a :: st) pc := fun H locs ls hP hS hl => lv_dup h.hx h.hb hd hc (k H locs ls hP hS hl)
theorem g_dup_x1 (h : Ok l x X cc own d) {a b : Value} (hd : decode cc pc = .ok (.dup_x1, 1)) (hc : a.category = 1) (hc2 : b.category = 1) (k : G x X σ L (a :: b :: a :: st) (pc + 1)) : G x X σ L (a :: b :: st) pc := fun H locs ls hP hS hl => lv_dup_x1 h.hx h.hb hd hc hc2 (k H locs ls hP hS hl)
theorem g_dup_x2 (h : Ok l x X cc own d) {a b c : Value} (hd : decode cc pc = .ok (.dup_x2, 1)) (hc : a.category = 1) (hc2 : b.category = 1) (hc3 : c.category = 1) (k : G x X σ L (a :: b :: c :: a :: st) (pc + 1)) : G x X σ L (a :: b :: c :: st) pc := fun H locs ls hP hS hl => lv_dup_x2 h.hx h.hb hd hc hc2 hc3 (k H locs ls hP hS hl)
theorem g_dup2 (h : Ok l x X cc own d) {a b : Value} (hd : decode cc pc = .ok (.dup2, 1)) (hc : a.category = 1) (hc2 : b.category = 1) (k : G x X σ L (a :: b :: a :: b :: st) (pc + 1)) : G x X σ L (a :: b :: st) pc := fun H locs ls hP hS hl => lv_dup2_11 h.hx h.hb hd hc hc2 (k H locs ls hP hS hl)
theorem g_pop (h : Ok l x X cc own d) {a : Value} (hd : decode cc pc = .ok (.pop, 1)) (hc : a.category = 1) (k : G x X σ L (st) (pc + 1)) : G x X σ L (a :: st) pc := fun H locs ls hP hS hl => lv_pop h.hx h.hb hd hc (k H locs ls hP hS hl)
theorem g_i2f (h : Ok l x X cc own d) {a : Int32} (hd : decode cc pc = .ok (.i2f, 1)) (k : G x X σ L (.float (FP.i2f a) :: st) (pc + 1)) : G x X σ L (.int a :: st) pc := fun H locs ls hP hS hl => lv_i2f h.hx h.hb hd (k H locs ls hP hS hl)
theorem g_f2i (h : Ok l x X cc own d) {a : UInt32} (hd : decode cc pc = .ok (.f2i, 1)) (k : G x X σ L (.int (FP.f2i a) :: st) (pc + 1)) : G x X σ L (.float a :: st) pc := fun H locs ls hP hS hl => lv_f2i h.hx h.hb hd (k H locs ls hP hS hl)
theorem g_fcmp (h : Ok l x X cc own d) {a b : UInt32} {o : CmpOp} (hd : decode cc pc = .ok (.fcmp o, 1)) (k : G x X σ L (.int (Op.cmpValue (FP.fcmp a b) o) :: st) (pc + 1)) : G x X σ L (.float b :: .float a :: st) pc := fun H locs ls hP hS hl => lv_fcmp h.hx h.hb hd (k H locs ls hP hS hl)
theorem g_fmul (h : Ok l x X cc own d) {a b : UInt32} (hd : decode cc pc = .ok (.fmul, 1)) (hne : vf_n32 (FP.fmul a b)) (k : G x X σ L (.float (FP.fmul a b) :: st) (pc + 1)) : G x X σ L (.float b :: .float a :: st) pc := fun H locs ls hP hS hl => lv_fmul h.hx h.hb hd hne (k H locs ls hP hS hl)
theorem g_fdiv (h : Ok l x X cc own d) {a b : UInt32} (hd : decode cc pc = .ok (.fdiv, 1)) (hne : vf_n32 (FP.fdiv a b)) (k : G x X σ L (.float (FP.fdiv a b) :: st) (pc + 1)) : G x X σ L (.float b :: .float a :: st) pc := fun H locs ls hP hS hl => lv_fdiv h.hx h.hb hd hne (k H locs ls hP hS hl)
theorem g_fconst1 (h : Ok l x X cc own d) (hd : decode cc pc = .ok (.fconst 1, 1)) (k : G x X σ L (.float FP.fconst1 :: st) (pc + 1)) : G x X σ L (st) pc := fun H locs ls hP hS hl => lv_fconst1 h.hx h.hb hd (k H locs ls hP hS hl)
theorem g_fconst2 (h : Ok l x X cc own d) (hd : decode cc pc = .ok (.fconst 2, 1)) (k : G x X σ L (.float FP.fconst2 :: st) (pc + 1)) : G x X σ L (st) pc := fun H locs ls hP hS hl => lv_fconst2 h.hx h.hb hd (k H locs ls hP hS hl)
theorem g_iload_n (h : Ok l x X cc own d) {k4 : Fin 4} {v : Int32} (hd : decode cc pc = .ok (.iload_n k4, 1)) (hv : lk L (k4 : Nat) = some (.int v)) (k : G x X σ L (.int v :: st) (pc + 1)) : G x X σ L st pc := fun H locs ls hP hS hl => lv_iload_n h.hx h.hb hd rfl (lk_has hl hv) (k H locs ls hP hS hl)
theorem g_iload (h : Ok l x X cc own d) {i : Nat} {v : Int32} (hd : decode cc pc = .ok (.iload i, 2)) (hv : lk L i = some (.int v)) (k : G x X σ L (.int v :: st) (pc + 2)) : G x X σ L st pc := fun H locs ls hP hS hl => lv_iload h.hx h.hb hd (lk_has hl hv) (k H locs ls hP hS hl)
theorem g_istore_n (h : Ok l x X cc own d) {k4 : Fin 4} {v : Int32} (hd : decode cc pc = .ok (.istore_n k4, 1)) (hn : (k4 : Nat) < xL x) (k : G x X σ (ls1 L (k4 : Nat) (.int v)) st (pc + 1)) : G x X σ L (.int v :: st) pc := fun H locs ls hP hS hl => lv_istore_n h.hx h.hb hd rfl hl hn rfl (fun ls' hl' => k H locs ls' hP hS hl')
theorem g_istore (h : Ok l x X cc own d) {i : Nat} {v : Int32} (hd : decode cc pc = .ok (.istore i, 2)) (hn : i < xL x) (k : G x X σ (ls1 L i (.int v)) st (pc + 2)) : G x X σ L (.int v :: st) pc := fun H locs ls hP hS hl => lv_istore h.hx h.hb hd hl hn rfl (fun ls' hl' => k H locs ls' hP hS hl')
theorem g_lload_n (h : Ok l x X cc own d) {k4 : Fin 4} {v : Int64} (hd : decode cc pc = .ok (.lload_n k4, 1)) (hv : lk L (k4 : Nat) = some (.long v)) (k : G x X σ L (.long v :: st) (pc + 1)) : G x X σ L st pc := fun H locs ls hP hS hl => lv_lload_n h.hx h.hb hd rfl (lk_has hl hv) (k H locs ls hP hS hl)
theorem g_lload (h : Ok l x X cc own d) {i : Nat} {v : Int64} (hd : decode cc pc = .ok (.lload i, 2)) (hv : lk L i = some (.long v)) (k : G x X σ L (.long v :: st) (pc + 2)) : G x X σ L st pc := fun H locs ls hP hS hl => lv_lload h.hx h.hb hd (lk_has hl hv) (k H locs ls hP hS hl)
theorem g_lstore_n (h : Ok l x X cc own d) {k4 : Fin 4} {v : Int64} (hd : decode cc pc = .ok (.lstore_n k4, 1)) (hn : (k4 : Nat) + 1 < xL x) (k : G x X σ (ls2 L (k4 : Nat) (.long v)) st (pc + 1)) : G x X σ L (.long v :: st) pc := fun H locs ls hP hS hl => lv_lstore_n h.hx h.hb hd rfl hl hn rfl (fun ls' hl' => k H locs ls' hP hS hl')
theorem g_lstore (h : Ok l x X cc own d) {i : Nat} {v : Int64} (hd : decode cc pc = .ok (.lstore i, 2)) (hn : i + 1 < xL x) (k : G x X σ (ls2 L i (.long v)) st (pc + 2)) : G x X σ L (.long v :: st) pc := fun H locs ls hP hS hl => lv_lstore h.hx h.hb hd hl hn rfl (fun ls' hl' => k H locs ls' hP hS hl')
theorem g_fload_n (h : Ok l x X cc own d) {k4 : Fin 4} {v : UInt32} (hd : decode cc pc = .ok (.fload_n k4, 1)) (hv : lk L (k4 : Nat) = some (.float v)) (k : G x X σ L (.float v :: st) (pc + 1)) : G x X σ L st pc := fun H locs ls hP hS hl => lv_fload_n h.hx h.hb hd rfl (lk_has hl hv) (k H locs ls hP hS hl)
theorem g_fload (h : Ok l x X cc own d) {i : Nat} {v : UInt32} (hd : decode cc pc = .ok (.fload i, 2)) (hv : lk L i = some (.float v)) (k : G x X σ L (.float v :: st) (pc + 2)) : G x X σ L st pc := fun H locs ls hP hS hl => lv_fload h.hx h.hb hd (lk_has hl hv) (k H locs ls hP hS hl)
theorem g_fstore_n (h : Ok l x X cc own d) {k4 : Fin 4} {v : UInt32} (hd : decode cc pc = .ok (.fstore_n k4, 1)) (hn : (k4 : Nat) < xL x) (k : G x X σ (ls1 L (k4 : Nat) (.float v)) st (pc + 1)) : G x X σ L (.float v :: st) pc := fun H locs ls hP hS hl => lv_fstore_n h.hx h.hb hd rfl hl hn rfl (fun ls' hl' => k H locs ls' hP hS hl')
theorem g_fstore (h : Ok l x X cc own d) {i : Nat} {v : UInt32} (hd : decode cc pc = .ok (.fstore i, 2)) (hn : i < xL x) (k : G x X σ (ls1 L i (.float v)) st (pc + 2)) : G x X σ L (.float v :: st) pc := fun H locs ls hP hS hl => lv_fstore h.hx h.hb hd hl hn rfl (fun ls' hl' => k H locs ls' hP hS hl')
theorem g_aload_n (h : Ok l x X cc own d) {k4 : Fin 4} {v : Nat} (hd : decode cc pc = .ok (.aload_n k4, 1)) (hv : lk L (k4 : Nat) = some (.ref v)) (k : G x X σ L (.ref v :: st) (pc + 1)) : G x X σ L st pc := fun H locs ls hP hS hl => lv_aload_n h.hx h.hb hd rfl (lk_has hl hv) (k H locs ls hP hS hl)
theorem g_aload (h : Ok l x X cc own d) {i : Nat} {v : Nat} (hd : decode cc pc = .ok (.aload i, 2)) (hv : lk L i = some (.ref v)) (k : G x X σ L (.ref v :: st) (pc + 2)) : G x X σ L st pc := fun H locs ls hP hS hl => lv_aload h.hx h.hb hd (lk_has hl hv) (k H locs ls hP hS hl)
theorem g_astore_n (h : Ok l x X cc own d) {k4 : Fin 4} {v : Nat} (hd : decode cc pc = .ok (.astore_n k4, 1)) (hn : (k4 : Nat) < xL x) (k : G x X σ (ls1 L (k4 : Nat) (.ref v)) st (pc + 1)) : G x X σ L (.ref v :: st) pc := fun H locs ls hP hS hl => lv_astore_n h.hx h.hb hd rfl hl hn rfl (fun ls' hl' => k H locs ls' hP hS hl')
theorem g_astore (h : Ok l x X cc own d) {i : Nat} {v : Nat} (hd : decode cc pc = .ok (.astore i, 2)) (hn : i < xL x) (k : G x X σ (ls1 L i (.ref v)) st (pc + 2)) : G x X σ L (.ref v :: st) pc := fun H locs ls hP hS hl => lv_astore h.hx h.hb hd hl hn rfl (fun ls' hl' => k H locs ls' hP hS hl')
theorem lk_place : ∀ (L : List (Nat × Value)) (i : Nat) (v : Value), lk L i = some v → ∃ k : Nat, L[k]? = some (i, v) := fun L i v h => List.getElem?_of_mem (lk_mem L i v h)
theorem g_iinc (h : Ok l x X cc own d) {i : Nat} {n : Int} {v : Int32} (hd : decode cc pc = .ok (.iinc i n, 3)) (hv : lk L i = some (.int v)) (hn : i < xL x) (k : G x X σ (ls1 L i (.int (v + Int32.ofInt n))) st (pc + 3)) : G x X σ L st pc := fun H locs ls hP hS hl => by
  obtain ⟨q, hq⟩ := lk_place L i _ hv
  exact lv_iinc h.hx h.hb hd hl hq rfl hn rfl (fun ls' hl' => k H locs ls' hP hS hl')
theorem g_ifeq (h : Ok l x X cc own d) {a : Int32} {off : Int} (tgt : Nat) (hd : decode cc pc = .ok (.ifCond .eq off, 3)) (ht : (pc : Int) + off = (tgt : Int)) (kt : a = 0 → G x X σ L st tgt) (kf : ¬ a = 0 → G x X σ L st (pc + 3)) : G x X σ L (.int a :: st) pc := fun H locs ls hP hS hl => lv_if_eq h.hx h.hb hd ht (fun c => kt c H locs ls hP hS hl) (fun c => kf c H locs ls hP hS hl)
theorem g_ifne (h : Ok l x X cc own d) {a : Int32} {off : Int} (tgt : Nat) (hd : decode cc pc = .ok (.ifCond .ne off, 3)) (ht : (pc : Int) + off = (tgt : Int)) (kt : ¬ a = 0 → G x X σ L st tgt) (kf : a = 0 → G x X σ L st (pc + 3)) : G x X σ L (.int a :: st) pc := fun H locs ls hP hS hl => lv_if_ne h.hx h.hb hd ht (fun c => kt c H locs ls hP hS hl) (fun c => kf c H locs ls hP hS hl)
theorem g_iflt (h : Ok l x X cc own d) {a : Int32} {off : Int} (tgt : Nat) (hd : decode cc pc = .ok (.ifCond .lt off, 3)) (ht : (pc : Int) + off = (tgt : Int)) (kt : a < 0 → G x X σ L st tgt) (kf : ¬ a < 0 → G x X σ L st (pc + 3)) : G x X σ L (.int a :: st) pc := fun H locs ls hP hS hl => lv_if_lt h.hx h.hb hd ht (fun c => kt c H locs ls hP hS hl) (fun c => kf c H locs ls hP hS hl)
theorem g_ifge (h : Ok l x X cc own d) {a : Int32} {off : Int} (tgt : Nat) (hd : decode cc pc = .ok (.ifCond .ge off, 3)) (ht : (pc : Int) + off = (tgt : Int)) (kt : 0 ≤ a → G x X σ L st tgt) (kf : ¬ 0 ≤ a → G x X σ L st (pc + 3)) : G x X σ L (.int a :: st) pc := fun H locs ls hP hS hl => lv_if_ge h.hx h.hb hd ht (fun c => kt c H locs ls hP hS hl) (fun c => kf c H locs ls hP hS hl)
theorem g_ifgt (h : Ok l x X cc own d) {a : Int32} {off : Int} (tgt : Nat) (hd : decode cc pc = .ok (.ifCond .gt off, 3)) (ht : (pc : Int) + off = (tgt : Int)) (kt : 0 < a → G x X σ L st tgt) (kf : ¬ 0 < a → G x X σ L st (pc + 3)) : G x X σ L (.int a :: st) pc := fun H locs ls hP hS hl => lv_if_gt h.hx h.hb hd ht (fun c => kt c H locs ls hP hS hl) (fun c => kf c H locs ls hP hS hl)
theorem g_ifle (h : Ok l x X cc own d) {a : Int32} {off : Int} (tgt : Nat) (hd : decode cc pc = .ok (.ifCond .le off, 3)) (ht : (pc : Int) + off = (tgt : Int)) (kt : a ≤ 0 → G x X σ L st tgt) (kf : ¬ a ≤ 0 → G x X σ L st (pc + 3)) : G x X σ L (.int a :: st) pc := fun H locs ls hP hS hl => lv_if_le h.hx h.hb hd ht (fun c => kt c H locs ls hP hS hl) (fun c => kf c H locs ls hP hS hl)
theorem g_iceq (h : Ok l x X cc own d) {a b : Int32} {off : Int} (tgt : Nat) (hd : decode cc pc = .ok (.if_icmp .eq off, 3)) (ht : (pc : Int) + off = (tgt : Int)) (kt : a = b → G x X σ L st tgt) (kf : ¬ a = b → G x X σ L st (pc + 3)) : G x X σ L (.int b :: .int a :: st) pc := fun H locs ls hP hS hl => lv_icmp_eq h.hx h.hb hd ht (fun c => kt c H locs ls hP hS hl) (fun c => kf c H locs ls hP hS hl)
theorem g_icne (h : Ok l x X cc own d) {a b : Int32} {off : Int} (tgt : Nat) (hd : decode cc pc = .ok (.if_icmp .ne off, 3)) (ht : (pc : Int) + off = (tgt : Int)) (kt : ¬ a = b → G x X σ L st tgt) (kf : a = b → G x X σ L st (pc + 3)) : G x X σ L (.int b :: .int a :: st) pc := fun H locs ls hP hS hl => lv_icmp_ne h.hx h.hb hd ht (fun c => kt c H locs ls hP hS hl) (fun c => kf c H locs ls hP hS hl)
theorem g_iclt (h : Ok l x X cc own d) {a b : Int32} {off : Int} (tgt : Nat) (hd : decode cc pc = .ok (.if_icmp .lt off, 3)) (ht : (pc : Int) + off = (tgt : Int)) (kt : a < b → G x X σ L st tgt) (kf : ¬ a < b → G x X σ L st (pc + 3)) : G x X σ L (.int b :: .int a :: st) pc := fun H locs ls hP hS hl => lv_icmp_lt h.hx h.hb hd ht (fun c => kt c H locs ls hP hS hl) (fun c => kf c H locs ls hP hS hl)
theorem g_icge (h : Ok l x X cc own d) {a b : Int32} {off : Int} (tgt : Nat) (hd : decode cc pc = .ok (.if_icmp .ge off, 3)) (ht : (pc : Int) + off = (tgt : Int)) (kt : b ≤ a → G x X σ L st tgt) (kf : ¬ b ≤ a → G x X σ L st (pc + 3)) : G x X σ L (.int b :: .int a :: st) pc := fun H locs ls hP hS hl => lv_icmp_ge h.hx h.hb hd ht (fun c => kt c H locs ls hP hS hl) (fun c => kf c H locs ls hP hS hl)
theorem g_icgt (h : Ok l x X cc own d) {a b : Int32} {off : Int} (tgt : Nat) (hd : decode cc pc = .ok (.if_icmp .gt off, 3)) (ht : (pc : Int) + off = (tgt : Int)) (kt : b < a → G x X σ L st tgt) (kf : ¬ b < a → G x X σ L st (pc + 3)) : G x X σ L (.int b :: .int a :: st) pc := fun H locs ls hP hS hl => lv_icmp_gt h.hx h.hb hd ht (fun c => kt c H locs ls hP hS hl) (fun c => kf c H locs ls hP hS hl)
theorem g_icle (h : Ok l x X cc own d) {a b : Int32} {off : Int} (tgt : Nat) (hd : decode cc pc = .ok (.if_icmp .le off, 3)) (ht : (pc : Int) + off = (tgt : Int)) (kt : a ≤ b → G x X σ L st tgt) (kf : ¬ a ≤ b → G x X σ L st (pc + 3)) : G x X σ L (.int b :: .int a :: st) pc := fun H locs ls hP hS hl => lv_icmp_le h.hx h.hb hd ht (fun c => kt c H locs ls hP hS hl) (fun c => kf c H locs ls hP hS hl)
theorem g_goto (h : Ok l x X cc own d) {off : Int} (tgt : Nat) (hd : decode cc pc = .ok (.goto off, 3)) (ht : (pc : Int) + off = (tgt : Int)) (k : G x X σ L st tgt) : G x X σ L st pc := fun H locs ls hP hS hl => lv_goto h.hx h.hb hd ht (k H locs ls hP hS hl)
theorem g_tsIn (h : Ok l x X cc own d) {dflt lo hi : Int} {offs : Array Int} {len : Nat} {a : Int32} {off : Int} (tgt : Nat) (hd : decode cc pc = .ok (.tableswitch dflt lo hi offs, len)) (h1 : ¬ a.toInt < lo) (h2 : ¬ hi < a.toInt) (hoff : offs[(a.toInt - lo).toNat]? = some off) (ht : (pc : Int) + off = (tgt : Int)) (k : G x X σ L st tgt) : G x X σ L (.int a :: st) pc := fun H locs ls hP hS hl => lv_tableIn h.hx h.hb hd h1 h2 hoff ht (k H locs ls hP hS hl)
theorem g_tsOut (h : Ok l x X cc own d) {dflt lo hi : Int} {offs : Array Int} {len : Nat} {a : Int32} (tgt : Nat) (hd : decode cc pc = .ok (.tableswitch dflt lo hi offs, len)) (h1 : a.toInt < lo ∨ hi < a.toInt) (ht : (pc : Int) + dflt = (tgt : Int)) (k : G x X σ L st tgt) : G x X σ L (.int a :: st) pc := fun H locs ls hP hS hl => lv_tableOut h.hx h.hb hd h1 ht (k H locs ls hP hS hl)
theorem g_ldc (h : Ok l x X cc own d) {idx : Nat} (v : Int32) (hw : Cond.constant own idx v ∈ lw_gd) (hd : decode cc pc = .ok (.ldc idx, 2)) (k : G x X σ L (.int v :: st) (pc + 2)) : G x X σ L st pc := fun H locs ls hP hS hl => lv_ldc h.hx h.hb h.ho (h.hts _ hw) hd (k H locs ls hP hS hl)
theorem g_ldc2 (h : Ok l x X cc own d) {idx : Nat} (v : Int64) (hw : Cond.constantLong own idx v ∈ lw_gd) (hd : decode cc pc = .ok (.ldc2_w idx, 3)) (k : G x X σ L (.long v :: st) (pc + 3)) : G x X σ L st pc := fun H locs ls hP hS hl => lv_ldc2 h.hx h.hb h.ho (h.hts _ hw) hd (k H locs ls hP hS hl)
theorem g_ldcf (h : Ok l x X cc own d) {idx : Nat} (v : UInt32) (hw : Cond.constantFloat own idx v ∈ lw_gd) (hd : decode cc pc = .ok (.ldc idx, 2)) (k : G x X σ L (.float v :: st) (pc + 2)) : G x X σ L st pc := fun H locs ls hP hS hl => lv_ldcf h.hx h.hb h.ho (h.hts _ hw) hd (k H locs ls hP hS hl)
/-- ends -/
theorem g_iret (h : Ok l x X cc own d) {r a : Int32} {σ' : fM} (hr : Rt x X (some .int) (some (.int r)) σ') (hd : decode cc pc = .ok (.ireturn, 1)) (ha : a = r) (hσ : σ = σ') : G x X σ L [.int a] pc := fun H locs ls hP hS hl => by
  subst ha; subst hσ
  show W _ _ _ _ _ _ _ _ _ _ _ _ _ _ _ _
  rw [hr.2.2.2]
  rw [hr.2.2.1] at hS
  exact W.iret h.hx h.hb hr.1 (fun t ht hW => ⟨⟨rfl, by rw [ht]; exact hP⟩, hS.F ht⟩) hS.2.2 hd hr.2.1
theorem g_zret (h : Ok l x X cc own d) {r a : Int32} {ty : FieldType} {σ' : fM} (hr : Rt x X (some ty) (some (.int r)) σ') (hn : narrow ty (.int a) = .int a) (hd : decode cc pc = .ok (.ireturn, 1)) (ha : a = r) (hσ : σ = σ') : G x X σ L [.int a] pc := fun H locs ls hP hS hl => by
  subst ha; subst hσ
  show W _ _ _ _ _ _ _ _ _ _ _ _ _ _ _ _
  rw [hr.2.2.2]
  rw [hr.2.2.1] at hS
  exact W.zret h.hx h.hb hr.1 hn (fun t ht hW => ⟨⟨rfl, by rw [ht]; exact hP⟩, hS.F ht⟩) hS.2.2 hd hr.2.1
theorem g_vret (h : Ok l x X cc own d) {σ' : fM} (hr : Rt x X none none σ') (hd : decode cc pc = .ok (.return_, 1)) (hσ : σ = σ') : G x X σ L [] pc := fun H locs ls hP hS hl => by
  subst hσ
  show W _ _ _ _ _ _ _ _ _ _ _ _ _ _ _ _
  rw [hr.2.2.2]
  rw [hr.2.2.1] at hS
  exact W.vret h.hx h.hb hr.1 (fun t ht hW => ⟨⟨rfl, by rw [ht]; exact hP⟩, hS.F ht⟩) hS.2.2 hd hr.2.1
/-- an int array is read -/
theorem g_iald (h : Ok l x X cc own d) {k n : Nat} {i : Int32} (hk : k < 159) (he : ∀ row e, enc X k row e = .inl (X.2.2.1 0, n, .inl row)) (hin : vp_in i n) (hd : decode cc pc = .ok (.iaload, 1)) (kk : G x X σ L (.int (σ.1 k i.toNatClampNeg) :: st) (pc + 1)) : G x X σ L (.int i :: ra X k :: st) pc := fun H locs ls hP hS hl =>
  va_iald h.hx h.hb h.hK hP k 0 (by rw [wl_get hk, he]) rfl hin hd (kk H locs ls hP hS hl)
theorem g_cald (h : Ok l x X cc own d) {k n : Nat} {i : Int32} (hk : k < 159) (he : ∀ row e, enc X k row e = .inl (X.2.2.1 1, n, .inl row)) (hin : vp_in i n) (hd : decode cc pc = .ok (.caload, 1)) (kk : G x X σ L (.int (σ.1 k i.toNatClampNeg) :: st) (pc + 1)) : G x X σ L (.int i :: ra X k :: st) pc := fun H locs ls hP hS hl =>
  va_cald h.hx h.hb h.hK hP k 1 (by rw [wl_get hk, he]) rfl hin hd (kk H locs ls hP hS hl)
theorem pu_upd (σ : fM) (k j : Nat) (v : Int32) : (pu σ k j v).1 k = upd (σ.1 k) j v := by rw [pu_row]; rfl
theorem g_iast (h : Ok l x X cc own d) {k n : Nat} {i v : Int32} (hk : k < 159) (he : ∀ row e, enc X k row e = .inl (X.2.2.1 0, n, .inl row)) (hin : vp_in i n) (hd : decode cc pc = .ok (.iastore, 1)) (kk : G x X (pu σ k i.toNatClampNeg v) L st (pc + 1)) : G x X σ L (.int v :: .int i :: ra X k :: st) pc := fun H locs ls hP hS hl =>
  va_iast h.hx h.hb h.hK hP (wl_D h.hA σ) hS k 0 (by rw [wl_get hk, he]) rfl hin hd (fun H1 locs1 hP1 hD1 hS1 => kk H1 locs1 ls (by rw [wl_set (σ' := pu σ k i.toNatClampNeg v) (by rw [he, pu_upd]) (fun k' hne => pu_ne k' hne) (fun _ _ => rfl)] at hP1; exact hP1) hS1 hl)
theorem g_cast (h : Ok l x X cc own d) {k n : Nat} {i v : Int32} (hk : k < 159) (he : ∀ row e, enc X k row e = .inl (X.2.2.1 1, n, .inl row)) (hin : vp_in i n) (hv : vp_nar .char v = v) (hd : decode cc pc = .ok (.castore, 1)) (kk : G x X (pu σ k i.toNatClampNeg v) L st (pc + 1)) : G x X σ L (.int v :: .int i :: ra X k :: st) pc := fun H locs ls hP hS hl =>
  va_cast h.hx h.hb h.hK hP (wl_D h.hA σ) hS k 1 (by rw [wl_get hk, he]) rfl hin hd (fun H1 locs1 hP1 hD1 hS1 => kk H1 locs1 ls (by rw [hv, wl_set (σ' := pu σ k i.toNatClampNeg v) (by rw [he, pu_upd]) (fun k' hne => pu_ne k' hne) (fun _ _ => rfl)] at hP1; exact hP1) hS1 hl)
/-- an array of objects is read -/
theorem g_aald (h : Ok l x X cc own d) {k n t : Nat} {i : Int32} {C : String} {f : Nat → Nat} (hk : k < 159) (he : ∀ row e, enc X k row e = .inl (X.2.2.1 t, n, .inr (.inr (.inr (.inr (fun j => some (X.2.1 (f j)))))))) (ht : (fty X)[t]? = some (X.2.2.1 t, .object C)) (hin : vp_in i n) (hd : decode cc pc = .ok (.aaload, 1)) (kk : G x X σ L (ra X (f i.toNatClampNeg) :: st) (pc + 1)) : G x X σ L (.int i :: ra X k :: st) pc := fun H locs ls hP hS hl =>
  va_aldq (f := fun j => some (X.2.1 (f j))) h.hx h.hb h.hK hP k t (by rw [wl_get hk, he]) ht hin hd (kk H locs ls hP hS hl)
/-- rows with a counter -/
theorem g_ialdN (h : Ok l x X cc own d) {k n j : Nat} {i : Int32} (hk : k < 159) (he : ∀ row e, enc X k row e = .inl (X.2.2.1 0, n, .inl row)) (hi : i = nI j) (hj : j < n) (hn : n < 2 ^ 31) (hd : decode cc pc = .ok (.iaload, 1)) (kk : G x X σ L (.int (σ.1 k j) :: st) (pc + 1)) : G x X σ L (.int i :: ra X k :: st) pc := by
  subst hi
  exact g_iald h hk he (vp_in_nI hj hn) hd (by rw [nI_clamp (Nat.lt_trans hj hn)]; exact kk)
theorem g_iastN (h : Ok l x X cc own d) {k n j : Nat} {i v : Int32} (hk : k < 159) (he : ∀ row e, enc X k row e = .inl (X.2.2.1 0, n, .inl row)) (hi : i = nI j) (hj : j < n) (hn : n < 2 ^ 31) (hd : decode cc pc = .ok (.iastore, 1)) (kk : G x X (pu σ k j v) L st (pc + 1)) : G x X σ L (.int v :: .int i :: ra X k :: st) pc := by
  subst hi
  exact g_iast h hk he (vp_in_nI hj hn) hd (by rw [nI_clamp (Nat.lt_trans hj hn)]; exact kk)
theorem g_caldN (h : Ok l x X cc own d) {k n j : Nat} {i : Int32} (hk : k < 159) (he : ∀ row e, enc X k row e = .inl (X.2.2.1 1, n, .inl row)) (hi : i = nI j) (hj : j < n) (hn : n < 2 ^ 31) (hd : decode cc pc = .ok (.caload, 1)) (kk : G x X σ L (.int (σ.1 k j) :: st) (pc + 1)) : G x X σ L (.int i :: ra X k :: st) pc := by
  subst hi
  exact g_cald h hk he (vp_in_nI hj hn) hd (by rw [nI_clamp (Nat.lt_trans hj hn)]; exact kk)
theorem g_castN (h : Ok l x X cc own d) {k n j : Nat} {i v : Int32} (hk : k < 159) (he : ∀ row e, enc X k row e = .inl (X.2.2.1 1, n, .inl row)) (hi : i = nI j) (hj : j < n) (hn : n < 2 ^ 31) (hv : vp_nar .char v = v) (hd : decode cc pc = .ok (.castore, 1)) (kk : G x X (pu σ k j v) L st (pc + 1)) : G x X σ L (.int v :: .int i :: ra X k :: st) pc := by
  subst hi
  exact g_cast h hk he (vp_in_nI hj hn) hv hd (by rw [nI_clamp (Nat.lt_trans hj hn)]; exact kk)
theorem g_aaldN (h : Ok l x X cc own d) {k n t j : Nat} {i : Int32} {C : String} {f : Nat → Nat} (hk : k < 159) (he : ∀ row e, enc X k row e = .inl (X.2.2.1 t, n, .inr (.inr (.inr (.inr (fun j => some (X.2.1 (f j)))))))) (ht : (fty X)[t]? = some (X.2.2.1 t, .object C)) (hi : i = nI j) (hj : j < n) (hn : n < 2 ^ 31) (hd : decode cc pc = .ok (.aaload, 1)) (kk : G x X σ L (ra X (f j) :: st) (pc + 1)) : G x X σ L (.int i :: ra X k :: st) pc := by
  subst hi
  exact g_aald h hk he ht (vp_in_nI hj hn) hd (by rw [nI_clamp (Nat.lt_trans hj hn)]; exact kk)
theorem g_aaldO (h : Ok l x X cc own d) {s j : Nat} {i : Int32} (hs : s < 6) (hi : i = nI j) (hj : j < 6) (hd : decode cc pc = .ok (.aaload, 1)) (kk : G x X σ L (ra X (iO s j) :: st) (pc + 1)) : G x X σ L (.int i :: ra X (iOs s) :: st) pc := g_aaldN (f := iO s) h (iOs_lt hs) (enc_Os X hs) rfl hi hj (by decide) hd kk
theorem g_aaldL (h : Ok l x X cc own d) {s j : Nat} {i : Int32} (hs : s < 6) (hi : i = nI j) (hj : j < 8) (hd : decode cc pc = .ok (.aaload, 1)) (kk : G x X σ L (ra X (iL s j) :: st) (pc + 1)) : G x X σ L (.int i :: ra X (iLs s) :: st) pc := g_aaldN (f := iL s) h (iLs_lt hs) (enc_Ls X hs) rfl hi hj (by decide) hd kk
theorem g_ialdT (h : Ok l x X cc own d) {s i : Nat} {j : Int32} (hs : s < 6) (hi : i < 6) (hj : vp_in j 32) (hd : decode cc pc = .ok (.iaload, 1)) (kk : G x X σ L (.int (σ.1 (iT s i) j.toNatClampNeg) :: st) (pc + 1)) : G x X σ L (.int j :: ra X (iT s i) :: st) pc := g_iald h (iT_lt hs hi) (enc_T X hs hi) hj hd kk
theorem g_iastT (h : Ok l x X cc own d) {s i : Nat} {j v : Int32} (hs : s < 6) (hi : i < 6) (hj : vp_in j 32) (hd : decode cc pc = .ok (.iastore, 1)) (kk : G x X (pu σ (iT s i) j.toNatClampNeg v) L st (pc + 1)) : G x X σ L (.int v :: .int j :: ra X (iT s i) :: st) pc := g_iast h (iT_lt hs hi) (enc_T X hs hi) hj hd kk
theorem g_ialdSet (h : Ok l x X cc own d) {s j : Nat} {i : Int32} (hs : s < 6) (hi : i = nI j) (hj : j < 3) (hd : decode cc pc = .ok (.iaload, 1)) (kk : G x X σ L (.int (σ.1 (iSet s) j) :: st) (pc + 1)) : G x X σ L (.int i :: ra X (iSet s) :: st) pc := g_ialdN h (iSet_lt hs) (enc_Set X hs) hi hj (by decide) hd kk
theorem g_iincN (h : Ok l x X cc own d) {i j : Nat} (hd : decode cc pc = .ok (.iinc i 1, 3)) (hv : lk L i = some (.int (nI j))) (hn : i < xL x) (k : G x X σ (ls1 L i (.int (nI (j + 1)))) st (pc + 3)) : G x X σ L st pc := g_iinc h hd hv hn (by rw [show nI j + Int32.ofInt 1 = nI (j + 1) from nI_1 j]; exact k)
/-- a mark of the stack's top: its value may be told in other words -/
theorem g_top {a : Int32} (b : Int32) (e : a = b) (k : G x X σ L (.int b :: st) pc) : G x X σ L (.int a :: st) pc := e ▸ k
end RULES
def bi (b : Bool) : Int32 := if b = true then 1 else 0
theorem bi_0 (b : Bool) : bi b = 0 ↔ b = false := by cases b <;> decide
theorem bi_1 (b : Bool) : bi b = 1 ↔ b = true := by cases b <;> decide
theorem bi_n (b : Bool) : narrow .boolean (.int (bi b)) = .int (bi b) := by cases b <;> decide
end
section
/-! decode rows (printed by the kit's program) -/
theorem dX0_init_0 : decode cX0_init 0 = .ok (.aload_n 0, 1) := by decide +kernel
theorem dX0_init_1 : decode cX0_init 1 = .ok (.invokespecial 1, 3) := by decide +kernel
theorem dX0_init_4 : decode cX0_init 4 = .ok (.return_, 1) := by decide +kernel
theorem dX0_copyFrom_0 : decode cX0_copyFrom 0 = .ok (.aload_n 0, 1) := by decide +kernel
theorem dX0_copyFrom_1 : decode cX0_copyFrom 1 = .ok (.aload_n 1, 1) := by decide +kernel
theorem dX0_copyFrom_2 : decode cX0_copyFrom 2 = .ok (.getfield 7, 3) := by decide +kernel
theorem dX0_copyFrom_5 : decode cX0_copyFrom 5 = .ok (.putfield 7, 3) := by decide +kernel
theorem dX0_copyFrom_8 : decode cX0_copyFrom 8 = .ok (.aload_n 0, 1) := by decide +kernel
theorem dX0_copyFrom_9 : decode cX0_copyFrom 9 = .ok (.aload_n 1, 1) := by decide +kernel
theorem dX0_copyFrom_10 : decode cX0_copyFrom 10 = .ok (.getfield 13, 3) := by decide +kernel
theorem dX0_copyFrom_13 : decode cX0_copyFrom 13 = .ok (.putfield 13, 3) := by decide +kernel
theorem dX0_copyFrom_16 : decode cX0_copyFrom 16 = .ok (.aload_n 0, 1) := by decide +kernel
theorem dX0_copyFrom_17 : decode cX0_copyFrom 17 = .ok (.aload_n 1, 1) := by decide +kernel
theorem dX0_copyFrom_18 : decode cX0_copyFrom 18 = .ok (.getfield 16, 3) := by decide +kernel
theorem dX0_copyFrom_21 : decode cX0_copyFrom 21 = .ok (.putfield 16, 3) := by decide +kernel
theorem dX0_copyFrom_24 : decode cX0_copyFrom 24 = .ok (.return_, 1) := by decide +kernel
theorem dX1_init_0 : decode cX1_init 0 = .ok (.aload_n 0, 1) := by decide +kernel
theorem dX1_init_1 : decode cX1_init 1 = .ok (.invokespecial 3, 3) := by decide +kernel
theorem dX1_init_4 : decode cX1_init 4 = .ok (.aload_n 0, 1) := by decide +kernel
theorem dX1_init_5 : decode cX1_init 5 = .ok (.bipush 32, 2) := by decide +kernel
theorem dX1_init_7 : decode cX1_init 7 = .ok (.newarray .int, 2) := by decide +kernel
theorem dX1_init_9 : decode cX1_init 9 = .ok (.putfield 9, 3) := by decide +kernel
theorem dX1_init_12 : decode cX1_init 12 = .ok (.return_, 1) := by decide +kernel
theorem dX1_begin_0 : decode cX1_begin 0 = .ok (.aload_n 0, 1) := by decide +kernel
theorem dX1_begin_1 : decode cX1_begin 1 = .ok (.iload_n 1, 1) := by decide +kernel
theorem dX1_begin_2 : decode cX1_begin 2 = .ok (.putfield 15, 3) := by decide +kernel
theorem dX1_begin_5 : decode cX1_begin 5 = .ok (.aload_n 0, 1) := by decide +kernel
theorem dX1_begin_6 : decode cX1_begin 6 = .ok (.iload_n 2, 1) := by decide +kernel
theorem dX1_begin_7 : decode cX1_begin 7 = .ok (.putfield 19, 3) := by decide +kernel
theorem dX1_begin_10 : decode cX1_begin 10 = .ok (.aload_n 0, 1) := by decide +kernel
theorem dX1_begin_11 : decode cX1_begin 11 = .ok (.iload_n 3, 1) := by decide +kernel
theorem dX1_begin_12 : decode cX1_begin 12 = .ok (.putfield 22, 3) := by decide +kernel
theorem dX1_begin_15 : decode cX1_begin 15 = .ok (.aload_n 0, 1) := by decide +kernel
theorem dX1_begin_16 : decode cX1_begin 16 = .ok (.iconst (-1), 1) := by decide +kernel
theorem dX1_begin_17 : decode cX1_begin 17 = .ok (.putfield 25, 3) := by decide +kernel
theorem dX1_begin_20 : decode cX1_begin 20 = .ok (.aload_n 0, 1) := by decide +kernel
theorem dX1_begin_21 : decode cX1_begin 21 = .ok (.iconst (-1), 1) := by decide +kernel
theorem dX1_begin_22 : decode cX1_begin 22 = .ok (.putfield 28, 3) := by decide +kernel
theorem dX1_begin_25 : decode cX1_begin 25 = .ok (.aload_n 0, 1) := by decide +kernel
theorem dX1_begin_26 : decode cX1_begin 26 = .ok (.iconst 0, 1) := by decide +kernel
theorem dX1_begin_27 : decode cX1_begin 27 = .ok (.putfield 31, 3) := by decide +kernel
theorem dX1_begin_30 : decode cX1_begin 30 = .ok (.aload_n 0, 1) := by decide +kernel
theorem dX1_begin_31 : decode cX1_begin 31 = .ok (.iconst 0, 1) := by decide +kernel
theorem dX1_begin_32 : decode cX1_begin 32 = .ok (.putfield 34, 3) := by decide +kernel
theorem dX1_begin_35 : decode cX1_begin 35 = .ok (.aload_n 0, 1) := by decide +kernel
theorem dX1_begin_36 : decode cX1_begin 36 = .ok (.iconst 0, 1) := by decide +kernel
theorem dX1_begin_37 : decode cX1_begin 37 = .ok (.putfield 37, 3) := by decide +kernel
theorem dX1_begin_40 : decode cX1_begin 40 = .ok (.aload_n 0, 1) := by decide +kernel
theorem dX1_begin_41 : decode cX1_begin 41 = .ok (.iconst 0, 1) := by decide +kernel
theorem dX1_begin_42 : decode cX1_begin 42 = .ok (.putfield 40, 3) := by decide +kernel
theorem dX1_begin_45 : decode cX1_begin 45 = .ok (.iconst 0, 1) := by decide +kernel
theorem dX1_begin_46 : decode cX1_begin 46 = .ok (.istore 4, 2) := by decide +kernel
theorem dX1_begin_48 : decode cX1_begin 48 = .ok (.iload 4, 2) := by decide +kernel
theorem dX1_begin_50 : decode cX1_begin 50 = .ok (.aload_n 0, 1) := by decide +kernel
theorem dX1_begin_51 : decode cX1_begin 51 = .ok (.getfield 9, 3) := by decide +kernel
theorem dX1_begin_54 : decode cX1_begin 54 = .ok (.arraylength, 1) := by decide +kernel
theorem dX1_begin_55 : decode cX1_begin 55 = .ok (.if_icmp .ge 17, 3) := by decide +kernel
theorem dX1_begin_58 : decode cX1_begin 58 = .ok (.aload_n 0, 1) := by decide +kernel
theorem dX1_begin_59 : decode cX1_begin 59 = .ok (.getfield 9, 3) := by decide +kernel
theorem dX1_begin_62 : decode cX1_begin 62 = .ok (.iload 4, 2) := by decide +kernel
theorem dX1_begin_64 : decode cX1_begin 64 = .ok (.iconst 1, 1) := by decide +kernel
theorem dX1_begin_65 : decode cX1_begin 65 = .ok (.iastore, 1) := by decide +kernel
theorem dX1_begin_66 : decode cX1_begin 66 = .ok (.iinc 4 1, 3) := by decide +kernel
theorem dX1_begin_69 : decode cX1_begin 69 = .ok (.goto (-21), 3) := by decide +kernel
theorem dX1_begin_72 : decode cX1_begin 72 = .ok (.return_, 1) := by decide +kernel
theorem dX1_copyFrom_0 : decode cX1_copyFrom 0 = .ok (.aload_n 0, 1) := by decide +kernel
theorem dX1_copyFrom_1 : decode cX1_copyFrom 1 = .ok (.aload_n 1, 1) := by decide +kernel
theorem dX1_copyFrom_2 : decode cX1_copyFrom 2 = .ok (.getfield 15, 3) := by decide +kernel
theorem dX1_copyFrom_5 : decode cX1_copyFrom 5 = .ok (.putfield 15, 3) := by decide +kernel
theorem dX1_copyFrom_8 : decode cX1_copyFrom 8 = .ok (.aload_n 0, 1) := by decide +kernel
theorem dX1_copyFrom_9 : decode cX1_copyFrom 9 = .ok (.aload_n 1, 1) := by decide +kernel
theorem dX1_copyFrom_10 : decode cX1_copyFrom 10 = .ok (.getfield 19, 3) := by decide +kernel
theorem dX1_copyFrom_13 : decode cX1_copyFrom 13 = .ok (.putfield 19, 3) := by decide +kernel
theorem dX1_copyFrom_16 : decode cX1_copyFrom 16 = .ok (.aload_n 0, 1) := by decide +kernel
theorem dX1_copyFrom_17 : decode cX1_copyFrom 17 = .ok (.aload_n 1, 1) := by decide +kernel
theorem dX1_copyFrom_18 : decode cX1_copyFrom 18 = .ok (.getfield 22, 3) := by decide +kernel
theorem dX1_copyFrom_21 : decode cX1_copyFrom 21 = .ok (.putfield 22, 3) := by decide +kernel
theorem dX1_copyFrom_24 : decode cX1_copyFrom 24 = .ok (.aload_n 0, 1) := by decide +kernel
theorem dX1_copyFrom_25 : decode cX1_copyFrom 25 = .ok (.aload_n 1, 1) := by decide +kernel
theorem dX1_copyFrom_26 : decode cX1_copyFrom 26 = .ok (.getfield 25, 3) := by decide +kernel
theorem dX1_copyFrom_29 : decode cX1_copyFrom 29 = .ok (.putfield 25, 3) := by decide +kernel
theorem dX1_copyFrom_32 : decode cX1_copyFrom 32 = .ok (.aload_n 0, 1) := by decide +kernel
theorem dX1_copyFrom_33 : decode cX1_copyFrom 33 = .ok (.aload_n 1, 1) := by decide +kernel
theorem dX1_copyFrom_34 : decode cX1_copyFrom 34 = .ok (.getfield 28, 3) := by decide +kernel
theorem dX1_copyFrom_37 : decode cX1_copyFrom 37 = .ok (.putfield 28, 3) := by decide +kernel
theorem dX1_copyFrom_40 : decode cX1_copyFrom 40 = .ok (.aload_n 0, 1) := by decide +kernel
theorem dX1_copyFrom_41 : decode cX1_copyFrom 41 = .ok (.aload_n 1, 1) := by decide +kernel
theorem dX1_copyFrom_42 : decode cX1_copyFrom 42 = .ok (.getfield 31, 3) := by decide +kernel
theorem dX1_copyFrom_45 : decode cX1_copyFrom 45 = .ok (.putfield 31, 3) := by decide +kernel
theorem dX1_copyFrom_48 : decode cX1_copyFrom 48 = .ok (.aload_n 0, 1) := by decide +kernel
theorem dX1_copyFrom_49 : decode cX1_copyFrom 49 = .ok (.aload_n 1, 1) := by decide +kernel
theorem dX1_copyFrom_50 : decode cX1_copyFrom 50 = .ok (.getfield 34, 3) := by decide +kernel
theorem dX1_copyFrom_53 : decode cX1_copyFrom 53 = .ok (.putfield 34, 3) := by decide +kernel
theorem dX1_copyFrom_56 : decode cX1_copyFrom 56 = .ok (.aload_n 0, 1) := by decide +kernel
theorem dX1_copyFrom_57 : decode cX1_copyFrom 57 = .ok (.aload_n 1, 1) := by decide +kernel
theorem dX1_copyFrom_58 : decode cX1_copyFrom 58 = .ok (.getfield 37, 3) := by decide +kernel
theorem dX1_copyFrom_61 : decode cX1_copyFrom 61 = .ok (.putfield 37, 3) := by decide +kernel
theorem dX1_copyFrom_64 : decode cX1_copyFrom 64 = .ok (.aload_n 0, 1) := by decide +kernel
theorem dX1_copyFrom_65 : decode cX1_copyFrom 65 = .ok (.aload_n 1, 1) := by decide +kernel
theorem dX1_copyFrom_66 : decode cX1_copyFrom 66 = .ok (.getfield 40, 3) := by decide +kernel
theorem dX1_copyFrom_69 : decode cX1_copyFrom 69 = .ok (.putfield 40, 3) := by decide +kernel
theorem dX1_copyFrom_72 : decode cX1_copyFrom 72 = .ok (.aload_n 1, 1) := by decide +kernel
theorem dX1_copyFrom_73 : decode cX1_copyFrom 73 = .ok (.getfield 9, 3) := by decide +kernel
theorem dX1_copyFrom_76 : decode cX1_copyFrom 76 = .ok (.iconst 0, 1) := by decide +kernel
theorem dX1_copyFrom_77 : decode cX1_copyFrom 77 = .ok (.aload_n 0, 1) := by decide +kernel
theorem dX1_copyFrom_78 : decode cX1_copyFrom 78 = .ok (.getfield 9, 3) := by decide +kernel
theorem dX1_copyFrom_81 : decode cX1_copyFrom 81 = .ok (.iconst 0, 1) := by decide +kernel
theorem dX1_copyFrom_82 : decode cX1_copyFrom 82 = .ok (.bipush 32, 2) := by decide +kernel
theorem dX1_copyFrom_84 : decode cX1_copyFrom 84 = .ok (.invokestatic 43, 3) := by decide +kernel
theorem dX1_copyFrom_87 : decode cX1_copyFrom 87 = .ok (.return_, 1) := by decide +kernel
theorem dX1_hasSeat_0 : decode cX1_hasSeat 0 = .ok (.aload_n 0, 1) := by decide +kernel
theorem dX1_hasSeat_1 : decode cX1_hasSeat 1 = .ok (.getfield 25, 3) := by decide +kernel
theorem dX1_hasSeat_4 : decode cX1_hasSeat 4 = .ok (.iconst (-1), 1) := by decide +kernel
theorem dX1_hasSeat_5 : decode cX1_hasSeat 5 = .ok (.if_icmp .eq 7, 3) := by decide +kernel
theorem dX1_hasSeat_8 : decode cX1_hasSeat 8 = .ok (.iconst 1, 1) := by decide +kernel
theorem dX1_hasSeat_9 : decode cX1_hasSeat 9 = .ok (.goto 4, 3) := by decide +kernel
theorem dX1_hasSeat_12 : decode cX1_hasSeat 12 = .ok (.iconst 0, 1) := by decide +kernel
theorem dX1_hasSeat_13 : decode cX1_hasSeat 13 = .ok (.ireturn, 1) := by decide +kernel
theorem dX1_isRuined_0 : decode cX1_isRuined 0 = .ok (.aload_n 0, 1) := by decide +kernel
theorem dX1_isRuined_1 : decode cX1_isRuined 1 = .ok (.getfield 22, 3) := by decide +kernel
theorem dX1_isRuined_4 : decode cX1_isRuined 4 = .ok (.ifCond .ne 7, 3) := by decide +kernel
theorem dX1_isRuined_7 : decode cX1_isRuined 7 = .ok (.iconst 1, 1) := by decide +kernel
theorem dX1_isRuined_8 : decode cX1_isRuined 8 = .ok (.goto 4, 3) := by decide +kernel
theorem dX1_isRuined_11 : decode cX1_isRuined 11 = .ok (.iconst 0, 1) := by decide +kernel
theorem dX1_isRuined_12 : decode cX1_isRuined 12 = .ok (.ireturn, 1) := by decide +kernel
theorem dX1_takesPart_0 : decode cX1_takesPart 0 = .ok (.aload_n 0, 1) := by decide +kernel
theorem dX1_takesPart_1 : decode cX1_takesPart 1 = .ok (.invokevirtual 49, 3) := by decide +kernel
theorem dX1_takesPart_4 : decode cX1_takesPart 4 = .ok (.ifCond .eq 14, 3) := by decide +kernel
theorem dX1_takesPart_7 : decode cX1_takesPart 7 = .ok (.aload_n 0, 1) := by decide +kernel
theorem dX1_takesPart_8 : decode cX1_takesPart 8 = .ok (.invokevirtual 53, 3) := by decide +kernel
theorem dX1_takesPart_11 : decode cX1_takesPart 11 = .ok (.ifCond .ne 7, 3) := by decide +kernel
theorem dX1_takesPart_14 : decode cX1_takesPart 14 = .ok (.iconst 1, 1) := by decide +kernel
theorem dX1_takesPart_15 : decode cX1_takesPart 15 = .ok (.goto 4, 3) := by decide +kernel
theorem dX1_takesPart_18 : decode cX1_takesPart 18 = .ok (.iconst 0, 1) := by decide +kernel
theorem dX1_takesPart_19 : decode cX1_takesPart 19 = .ok (.ireturn, 1) := by decide +kernel
theorem dX1_hasTable_0 : decode cX1_hasTable 0 = .ok (.aload_n 0, 1) := by decide +kernel
theorem dX1_hasTable_1 : decode cX1_hasTable 1 = .ok (.getfield 15, 3) := by decide +kernel
theorem dX1_hasTable_4 : decode cX1_hasTable 4 = .ok (.iconst 1, 1) := by decide +kernel
theorem dX1_hasTable_5 : decode cX1_hasTable 5 = .ok (.if_icmp .lt 15, 3) := by decide +kernel
theorem dX1_hasTable_8 : decode cX1_hasTable 8 = .ok (.aload_n 0, 1) := by decide +kernel
theorem dX1_hasTable_9 : decode cX1_hasTable 9 = .ok (.getfield 15, 3) := by decide +kernel
theorem dX1_hasTable_12 : decode cX1_hasTable 12 = .ok (.iconst 3, 1) := by decide +kernel
theorem dX1_hasTable_13 : decode cX1_hasTable 13 = .ok (.if_icmp .gt 7, 3) := by decide +kernel
theorem dX1_hasTable_16 : decode cX1_hasTable 16 = .ok (.iconst 1, 1) := by decide +kernel
theorem dX1_hasTable_17 : decode cX1_hasTable 17 = .ok (.goto 4, 3) := by decide +kernel
theorem dX1_hasTable_20 : decode cX1_hasTable 20 = .ok (.iconst 0, 1) := by decide +kernel
theorem dX1_hasTable_21 : decode cX1_hasTable 21 = .ok (.ireturn, 1) := by decide +kernel
theorem dX1_tableSize_0 : decode cX1_tableSize 0 = .ok (.aload_n 0, 1) := by decide +kernel
theorem dX1_tableSize_1 : decode cX1_tableSize 1 = .ok (.invokevirtual 56, 3) := by decide +kernel
theorem dX1_tableSize_4 : decode cX1_tableSize 4 = .ok (.ifCond .eq 12, 3) := by decide +kernel
theorem dX1_tableSize_7 : decode cX1_tableSize 7 = .ok (.iconst 1, 1) := by decide +kernel
theorem dX1_tableSize_8 : decode cX1_tableSize 8 = .ok (.aload_n 0, 1) := by decide +kernel
theorem dX1_tableSize_9 : decode cX1_tableSize 9 = .ok (.getfield 19, 3) := by decide +kernel
theorem dX1_tableSize_12 : decode cX1_tableSize 12 = .ok (.ishl, 1) := by decide +kernel
theorem dX1_tableSize_13 : decode cX1_tableSize 13 = .ok (.goto 4, 3) := by decide +kernel
theorem dX1_tableSize_16 : decode cX1_tableSize 16 = .ok (.iconst 0, 1) := by decide +kernel
theorem dX1_tableSize_17 : decode cX1_tableSize 17 = .ok (.ireturn, 1) := by decide +kernel
theorem dX1_slotOf_0 : decode cX1_slotOf 0 = .ok (.iconst 1, 1) := by decide +kernel
theorem dX1_slotOf_1 : decode cX1_slotOf 1 = .ok (.aload_n 0, 1) := by decide +kernel
theorem dX1_slotOf_2 : decode cX1_slotOf 2 = .ok (.getfield 19, 3) := by decide +kernel
theorem dX1_slotOf_5 : decode cX1_slotOf 5 = .ok (.ishl, 1) := by decide +kernel
theorem dX1_slotOf_6 : decode cX1_slotOf 6 = .ok (.iconst 1, 1) := by decide +kernel
theorem dX1_slotOf_7 : decode cX1_slotOf 7 = .ok (.isub, 1) := by decide +kernel
theorem dX1_slotOf_8 : decode cX1_slotOf 8 = .ok (.istore_n 3, 1) := by decide +kernel
theorem dX1_slotOf_9 : decode cX1_slotOf 9 = .ok (.aload_n 0, 1) := by decide +kernel
theorem dX1_slotOf_10 : decode cX1_slotOf 10 = .ok (.getfield 15, 3) := by decide +kernel
theorem dX1_slotOf_13 : decode cX1_slotOf 13 = .ok (.iconst 1, 1) := by decide +kernel
theorem dX1_slotOf_14 : decode cX1_slotOf 14 = .ok (.if_icmp .ne 7, 3) := by decide +kernel
theorem dX1_slotOf_17 : decode cX1_slotOf 17 = .ok (.iload_n 1, 1) := by decide +kernel
theorem dX1_slotOf_18 : decode cX1_slotOf 18 = .ok (.iload_n 3, 1) := by decide +kernel
theorem dX1_slotOf_19 : decode cX1_slotOf 19 = .ok (.iand, 1) := by decide +kernel
theorem dX1_slotOf_20 : decode cX1_slotOf 20 = .ok (.ireturn, 1) := by decide +kernel
theorem dX1_slotOf_21 : decode cX1_slotOf 21 = .ok (.aload_n 0, 1) := by decide +kernel
theorem dX1_slotOf_22 : decode cX1_slotOf 22 = .ok (.getfield 15, 3) := by decide +kernel
theorem dX1_slotOf_25 : decode cX1_slotOf 25 = .ok (.iconst 2, 1) := by decide +kernel
theorem dX1_slotOf_26 : decode cX1_slotOf 26 = .ok (.if_icmp .ne 7, 3) := by decide +kernel
theorem dX1_slotOf_29 : decode cX1_slotOf 29 = .ok (.iload_n 2, 1) := by decide +kernel
theorem dX1_slotOf_30 : decode cX1_slotOf 30 = .ok (.goto 6, 3) := by decide +kernel
theorem dX1_slotOf_33 : decode cX1_slotOf 33 = .ok (.iload_n 1, 1) := by decide +kernel
theorem dX1_slotOf_34 : decode cX1_slotOf 34 = .ok (.iload_n 2, 1) := by decide +kernel
theorem dX1_slotOf_35 : decode cX1_slotOf 35 = .ok (.ixor, 1) := by decide +kernel
theorem dX1_slotOf_36 : decode cX1_slotOf 36 = .ok (.iload_n 3, 1) := by decide +kernel
theorem dX1_slotOf_37 : decode cX1_slotOf 37 = .ok (.iand, 1) := by decide +kernel
theorem dX1_slotOf_38 : decode cX1_slotOf 38 = .ok (.ireturn, 1) := by decide +kernel
theorem dX1_wordOfItsOwn_0 : decode cX1_wordOfItsOwn 0 = .ok (.aload_n 0, 1) := by decide +kernel
theorem dX1_wordOfItsOwn_1 : decode cX1_wordOfItsOwn 1 = .ok (.invokevirtual 56, 3) := by decide +kernel
theorem dX1_wordOfItsOwn_4 : decode cX1_wordOfItsOwn 4 = .ok (.ifCond .ne 8, 3) := by decide +kernel
theorem dX1_wordOfItsOwn_7 : decode cX1_wordOfItsOwn 7 = .ok (.aload_n 0, 1) := by decide +kernel
theorem dX1_wordOfItsOwn_8 : decode cX1_wordOfItsOwn 8 = .ok (.getfield 19, 3) := by decide +kernel
theorem dX1_wordOfItsOwn_11 : decode cX1_wordOfItsOwn 11 = .ok (.ireturn, 1) := by decide +kernel
theorem dX1_wordOfItsOwn_12 : decode cX1_wordOfItsOwn 12 = .ok (.aload_n 0, 1) := by decide +kernel
theorem dX1_wordOfItsOwn_13 : decode cX1_wordOfItsOwn 13 = .ok (.getfield 9, 3) := by decide +kernel
theorem dX1_wordOfItsOwn_16 : decode cX1_wordOfItsOwn 16 = .ok (.aload_n 0, 1) := by decide +kernel
theorem dX1_wordOfItsOwn_17 : decode cX1_wordOfItsOwn 17 = .ok (.iload_n 1, 1) := by decide +kernel
theorem dX1_wordOfItsOwn_18 : decode cX1_wordOfItsOwn 18 = .ok (.iload_n 2, 1) := by decide +kernel
theorem dX1_wordOfItsOwn_19 : decode cX1_wordOfItsOwn 19 = .ok (.invokevirtual 59, 3) := by decide +kernel
theorem dX1_wordOfItsOwn_22 : decode cX1_wordOfItsOwn 22 = .ok (.iaload, 1) := by decide +kernel
theorem dX1_wordOfItsOwn_23 : decode cX1_wordOfItsOwn 23 = .ok (.iconst 2, 1) := by decide +kernel
theorem dX1_wordOfItsOwn_24 : decode cX1_wordOfItsOwn 24 = .ok (.if_icmp .lt 7, 3) := by decide +kernel
theorem dX1_wordOfItsOwn_27 : decode cX1_wordOfItsOwn 27 = .ok (.iconst 1, 1) := by decide +kernel
theorem dX1_wordOfItsOwn_28 : decode cX1_wordOfItsOwn 28 = .ok (.goto 4, 3) := by decide +kernel
theorem dX1_wordOfItsOwn_31 : decode cX1_wordOfItsOwn 31 = .ok (.iconst 0, 1) := by decide +kernel
theorem dX1_wordOfItsOwn_32 : decode cX1_wordOfItsOwn 32 = .ok (.ireturn, 1) := by decide +kernel
theorem dX1_stakeNow_0 : decode cX1_stakeNow 0 = .ok (.aload_n 0, 1) := by decide +kernel
theorem dX1_stakeNow_1 : decode cX1_stakeNow 1 = .ok (.invokevirtual 63, 3) := by decide +kernel
theorem dX1_stakeNow_4 : decode cX1_stakeNow 4 = .ok (.ifCond .ne 5, 3) := by decide +kernel
theorem dX1_stakeNow_7 : decode cX1_stakeNow 7 = .ok (.iconst 0, 1) := by decide +kernel
theorem dX1_stakeNow_8 : decode cX1_stakeNow 8 = .ok (.ireturn, 1) := by decide +kernel
theorem dX1_stakeNow_9 : decode cX1_stakeNow 9 = .ok (.iconst 0, 1) := by decide +kernel
theorem dX1_stakeNow_10 : decode cX1_stakeNow 10 = .ok (.istore 4, 2) := by decide +kernel
theorem dX1_stakeNow_12 : decode cX1_stakeNow 12 = .ok (.aload_n 0, 1) := by decide +kernel
theorem dX1_stakeNow_13 : decode cX1_stakeNow 13 = .ok (.invokevirtual 56, 3) := by decide +kernel
theorem dX1_stakeNow_16 : decode cX1_stakeNow 16 = .ok (.ifCond .eq 34, 3) := by decide +kernel
theorem dX1_stakeNow_19 : decode cX1_stakeNow 19 = .ok (.aload_n 0, 1) := by decide +kernel
theorem dX1_stakeNow_20 : decode cX1_stakeNow 20 = .ok (.getfield 9, 3) := by decide +kernel
theorem dX1_stakeNow_23 : decode cX1_stakeNow 23 = .ok (.aload_n 0, 1) := by decide +kernel
theorem dX1_stakeNow_24 : decode cX1_stakeNow 24 = .ok (.iload_n 2, 1) := by decide +kernel
theorem dX1_stakeNow_25 : decode cX1_stakeNow 25 = .ok (.iload_n 3, 1) := by decide +kernel
theorem dX1_stakeNow_26 : decode cX1_stakeNow 26 = .ok (.invokevirtual 59, 3) := by decide +kernel
theorem dX1_stakeNow_29 : decode cX1_stakeNow 29 = .ok (.iaload, 1) := by decide +kernel
theorem dX1_stakeNow_30 : decode cX1_stakeNow 30 = .ok (.istore 5, 2) := by decide +kernel
theorem dX1_stakeNow_32 : decode cX1_stakeNow 32 = .ok (.iload 5, 2) := by decide +kernel
theorem dX1_stakeNow_34 : decode cX1_stakeNow 34 = .ok (.ifCond .eq 9, 3) := by decide +kernel
theorem dX1_stakeNow_37 : decode cX1_stakeNow 37 = .ok (.iload 5, 2) := by decide +kernel
theorem dX1_stakeNow_39 : decode cX1_stakeNow 39 = .ok (.iconst 3, 1) := by decide +kernel
theorem dX1_stakeNow_40 : decode cX1_stakeNow 40 = .ok (.if_icmp .ne 7, 3) := by decide +kernel
theorem dX1_stakeNow_43 : decode cX1_stakeNow 43 = .ok (.iconst 1, 1) := by decide +kernel
theorem dX1_stakeNow_44 : decode cX1_stakeNow 44 = .ok (.goto 4, 3) := by decide +kernel
theorem dX1_stakeNow_47 : decode cX1_stakeNow 47 = .ok (.iconst 0, 1) := by decide +kernel
theorem dX1_stakeNow_48 : decode cX1_stakeNow 48 = .ok (.istore 4, 2) := by decide +kernel
theorem dX1_stakeNow_50 : decode cX1_stakeNow 50 = .ok (.aload_n 0, 1) := by decide +kernel
theorem dX1_stakeNow_51 : decode cX1_stakeNow 51 = .ok (.getfield 22, 3) := by decide +kernel
theorem dX1_stakeNow_54 : decode cX1_stakeNow 54 = .ok (.iload 4, 2) := by decide +kernel
theorem dX1_stakeNow_56 : decode cX1_stakeNow 56 = .ok (.ifCond .eq 9, 3) := by decide +kernel
theorem dX1_stakeNow_59 : decode cX1_stakeNow 59 = .ok (.iconst 2, 1) := by decide +kernel
theorem dX1_stakeNow_60 : decode cX1_stakeNow 60 = .ok (.iload_n 1, 1) := by decide +kernel
theorem dX1_stakeNow_61 : decode cX1_stakeNow 61 = .ok (.imul, 1) := by decide +kernel
theorem dX1_stakeNow_62 : decode cX1_stakeNow 62 = .ok (.goto 4, 3) := by decide +kernel
theorem dX1_stakeNow_65 : decode cX1_stakeNow 65 = .ok (.iload_n 1, 1) := by decide +kernel
theorem dX1_stakeNow_66 : decode cX1_stakeNow 66 = .ok (.invokestatic 66, 3) := by decide +kernel
theorem dX1_stakeNow_69 : decode cX1_stakeNow 69 = .ok (.ireturn, 1) := by decide +kernel
theorem dX1_learn_0 : decode cX1_learn 0 = .ok (.aload_n 0, 1) := by decide +kernel
theorem dX1_learn_1 : decode cX1_learn 1 = .ok (.iload_n 1, 1) := by decide +kernel
theorem dX1_learn_2 : decode cX1_learn 2 = .ok (.iload_n 3, 1) := by decide +kernel
theorem dX1_learn_3 : decode cX1_learn 3 = .ok (.invokevirtual 59, 3) := by decide +kernel
theorem dX1_learn_6 : decode cX1_learn 6 = .ok (.istore 4, 2) := by decide +kernel
theorem dX1_learn_8 : decode cX1_learn 8 = .ok (.aload_n 0, 1) := by decide +kernel
theorem dX1_learn_9 : decode cX1_learn 9 = .ok (.getfield 9, 3) := by decide +kernel
theorem dX1_learn_12 : decode cX1_learn 12 = .ok (.iload 4, 2) := by decide +kernel
theorem dX1_learn_14 : decode cX1_learn 14 = .ok (.iload_n 2, 1) := by decide +kernel
theorem dX1_learn_15 : decode cX1_learn 15 = .ok (.iconst 1, 1) := by decide +kernel
theorem dX1_learn_16 : decode cX1_learn 16 = .ok (.if_icmp .ne 19, 3) := by decide +kernel
theorem dX1_learn_19 : decode cX1_learn 19 = .ok (.iconst 3, 1) := by decide +kernel
theorem dX1_learn_20 : decode cX1_learn 20 = .ok (.aload_n 0, 1) := by decide +kernel
theorem dX1_learn_21 : decode cX1_learn 21 = .ok (.getfield 9, 3) := by decide +kernel
theorem dX1_learn_24 : decode cX1_learn 24 = .ok (.iload 4, 2) := by decide +kernel
theorem dX1_learn_26 : decode cX1_learn 26 = .ok (.iaload, 1) := by decide +kernel
theorem dX1_learn_27 : decode cX1_learn 27 = .ok (.iconst 1, 1) := by decide +kernel
theorem dX1_learn_28 : decode cX1_learn 28 = .ok (.iadd, 1) := by decide +kernel
theorem dX1_learn_29 : decode cX1_learn 29 = .ok (.invokestatic 66, 3) := by decide +kernel
theorem dX1_learn_32 : decode cX1_learn 32 = .ok (.goto 16, 3) := by decide +kernel
theorem dX1_learn_35 : decode cX1_learn 35 = .ok (.iconst 0, 1) := by decide +kernel
theorem dX1_learn_36 : decode cX1_learn 36 = .ok (.aload_n 0, 1) := by decide +kernel
theorem dX1_learn_37 : decode cX1_learn 37 = .ok (.getfield 9, 3) := by decide +kernel
theorem dX1_learn_40 : decode cX1_learn 40 = .ok (.iload 4, 2) := by decide +kernel
theorem dX1_learn_42 : decode cX1_learn 42 = .ok (.iaload, 1) := by decide +kernel
theorem dX1_learn_43 : decode cX1_learn 43 = .ok (.iconst 1, 1) := by decide +kernel
theorem dX1_learn_44 : decode cX1_learn 44 = .ok (.isub, 1) := by decide +kernel
theorem dX1_learn_45 : decode cX1_learn 45 = .ok (.invokestatic 71, 3) := by decide +kernel
theorem dX1_learn_48 : decode cX1_learn 48 = .ok (.iastore, 1) := by decide +kernel
theorem dX1_learn_49 : decode cX1_learn 49 = .ok (.return_, 1) := by decide +kernel
theorem dX1_note_0 : decode cX1_note 0 = .ok (.iload_n 1, 1) := by decide +kernel
theorem dX1_note_1 : decode cX1_note 1 = .ok (.ifCond .eq 16, 3) := by decide +kernel
theorem dX1_note_4 : decode cX1_note 4 = .ok (.aload_n 0, 1) := by decide +kernel
theorem dX1_note_5 : decode cX1_note 5 = .ok (.dup, 1) := by decide +kernel
theorem dX1_note_6 : decode cX1_note 6 = .ok (.getfield 31, 3) := by decide +kernel
theorem dX1_note_9 : decode cX1_note 9 = .ok (.iconst 1, 1) := by decide +kernel
theorem dX1_note_10 : decode cX1_note 10 = .ok (.iadd, 1) := by decide +kernel
theorem dX1_note_11 : decode cX1_note 11 = .ok (.putfield 31, 3) := by decide +kernel
theorem dX1_note_14 : decode cX1_note 14 = .ok (.goto 13, 3) := by decide +kernel
theorem dX1_note_17 : decode cX1_note 17 = .ok (.aload_n 0, 1) := by decide +kernel
theorem dX1_note_18 : decode cX1_note 18 = .ok (.dup, 1) := by decide +kernel
theorem dX1_note_19 : decode cX1_note 19 = .ok (.getfield 34, 3) := by decide +kernel
theorem dX1_note_22 : decode cX1_note 22 = .ok (.iconst 1, 1) := by decide +kernel
theorem dX1_note_23 : decode cX1_note 23 = .ok (.iadd, 1) := by decide +kernel
theorem dX1_note_24 : decode cX1_note 24 = .ok (.putfield 34, 3) := by decide +kernel
theorem dX1_note_27 : decode cX1_note 27 = .ok (.aload_n 0, 1) := by decide +kernel
theorem dX1_note_28 : decode cX1_note 28 = .ok (.iconst 2, 1) := by decide +kernel
theorem dX1_note_29 : decode cX1_note 29 = .ok (.aload_n 0, 1) := by decide +kernel
theorem dX1_note_30 : decode cX1_note 30 = .ok (.getfield 37, 3) := by decide +kernel
theorem dX1_note_33 : decode cX1_note 33 = .ok (.imul, 1) := by decide +kernel
theorem dX1_note_34 : decode cX1_note 34 = .ok (.iload_n 1, 1) := by decide +kernel
theorem dX1_note_35 : decode cX1_note 35 = .ok (.ifCond .eq 7, 3) := by decide +kernel
theorem dX1_note_38 : decode cX1_note 38 = .ok (.iconst 1, 1) := by decide +kernel
theorem dX1_note_39 : decode cX1_note 39 = .ok (.goto 4, 3) := by decide +kernel
theorem dX1_note_42 : decode cX1_note 42 = .ok (.iconst 0, 1) := by decide +kernel
theorem dX1_note_43 : decode cX1_note 43 = .ok (.iadd, 1) := by decide +kernel
theorem dX1_note_44 : decode cX1_note 44 = .ok (.ldc 74, 2) := by decide +kernel
theorem dX1_note_46 : decode cX1_note 46 = .ok (.iand, 1) := by decide +kernel
theorem dX1_note_47 : decode cX1_note 47 = .ok (.putfield 37, 3) := by decide +kernel
theorem dX1_note_50 : decode cX1_note 50 = .ok (.aload_n 0, 1) := by decide +kernel
theorem dX1_note_51 : decode cX1_note 51 = .ok (.invokevirtual 53, 3) := by decide +kernel
theorem dX1_note_54 : decode cX1_note 54 = .ok (.ifCond .eq 13, 3) := by decide +kernel
theorem dX1_note_57 : decode cX1_note 57 = .ok (.aload_n 0, 1) := by decide +kernel
theorem dX1_note_58 : decode cX1_note 58 = .ok (.dup, 1) := by decide +kernel
theorem dX1_note_59 : decode cX1_note 59 = .ok (.getfield 40, 3) := by decide +kernel
theorem dX1_note_62 : decode cX1_note 62 = .ok (.iconst 1, 1) := by decide +kernel
theorem dX1_note_63 : decode cX1_note 63 = .ok (.iadd, 1) := by decide +kernel
theorem dX1_note_64 : decode cX1_note 64 = .ok (.putfield 40, 3) := by decide +kernel
theorem dX1_note_67 : decode cX1_note 67 = .ok (.return_, 1) := by decide +kernel
theorem dX2_init_0 : decode cX2_init 0 = .ok (.aload_n 0, 1) := by decide +kernel
theorem dX2_init_1 : decode cX2_init 1 = .ok (.invokespecial 3, 3) := by decide +kernel
theorem dX2_init_4 : decode cX2_init 4 = .ok (.aload_n 0, 1) := by decide +kernel
theorem dX2_init_5 : decode cX2_init 5 = .ok (.iconst 4, 1) := by decide +kernel
theorem dX2_init_6 : decode cX2_init 6 = .ok (.anewarray 9, 3) := by decide +kernel
theorem dX2_init_9 : decode cX2_init 9 = .ok (.putfield 11, 3) := by decide +kernel
theorem dX2_init_12 : decode cX2_init 12 = .ok (.iconst 0, 1) := by decide +kernel
theorem dX2_init_13 : decode cX2_init 13 = .ok (.istore_n 1, 1) := by decide +kernel
theorem dX2_init_14 : decode cX2_init 14 = .ok (.iload_n 1, 1) := by decide +kernel
theorem dX2_init_15 : decode cX2_init 15 = .ok (.iconst 4, 1) := by decide +kernel
theorem dX2_init_16 : decode cX2_init 16 = .ok (.if_icmp .ge 22, 3) := by decide +kernel
theorem dX2_init_19 : decode cX2_init 19 = .ok (.aload_n 0, 1) := by decide +kernel
theorem dX2_init_20 : decode cX2_init 20 = .ok (.getfield 11, 3) := by decide +kernel
theorem dX2_init_23 : decode cX2_init 23 = .ok (.iload_n 1, 1) := by decide +kernel
theorem dX2_init_24 : decode cX2_init 24 = .ok (.new 9, 3) := by decide +kernel
theorem dX2_init_27 : decode cX2_init 27 = .ok (.dup, 1) := by decide +kernel
theorem dX2_init_28 : decode cX2_init 28 = .ok (.invokespecial 17, 3) := by decide +kernel
theorem dX2_init_31 : decode cX2_init 31 = .ok (.aastore, 1) := by decide +kernel
theorem dX2_init_32 : decode cX2_init 32 = .ok (.iinc 1 1, 3) := by decide +kernel
theorem dX2_init_35 : decode cX2_init 35 = .ok (.goto (-21), 3) := by decide +kernel
theorem dX2_init_38 : decode cX2_init 38 = .ok (.return_, 1) := by decide +kernel
theorem dX2_keep_0 : decode cX2_keep 0 = .ok (.aload_n 0, 1) := by decide +kernel
theorem dX2_keep_1 : decode cX2_keep 1 = .ok (.getfield 11, 3) := by decide +kernel
theorem dX2_keep_4 : decode cX2_keep 4 = .ok (.aload_n 0, 1) := by decide +kernel
theorem dX2_keep_5 : decode cX2_keep 5 = .ok (.getfield 18, 3) := by decide +kernel
theorem dX2_keep_8 : decode cX2_keep 8 = .ok (.aload_n 0, 1) := by decide +kernel
theorem dX2_keep_9 : decode cX2_keep 9 = .ok (.getfield 22, 3) := by decide +kernel
theorem dX2_keep_12 : decode cX2_keep 12 = .ok (.iadd, 1) := by decide +kernel
theorem dX2_keep_13 : decode cX2_keep 13 = .ok (.iconst 4, 1) := by decide +kernel
theorem dX2_keep_14 : decode cX2_keep 14 = .ok (.irem, 1) := by decide +kernel
theorem dX2_keep_15 : decode cX2_keep 15 = .ok (.aaload, 1) := by decide +kernel
theorem dX2_keep_16 : decode cX2_keep 16 = .ok (.aload_n 1, 1) := by decide +kernel
theorem dX2_keep_17 : decode cX2_keep 17 = .ok (.invokevirtual 25, 3) := by decide +kernel
theorem dX2_keep_20 : decode cX2_keep 20 = .ok (.aload_n 0, 1) := by decide +kernel
theorem dX2_keep_21 : decode cX2_keep 21 = .ok (.getfield 22, 3) := by decide +kernel
theorem dX2_keep_24 : decode cX2_keep 24 = .ok (.iconst 4, 1) := by decide +kernel
theorem dX2_keep_25 : decode cX2_keep 25 = .ok (.if_icmp .ge 16, 3) := by decide +kernel
theorem dX2_keep_28 : decode cX2_keep 28 = .ok (.aload_n 0, 1) := by decide +kernel
theorem dX2_keep_29 : decode cX2_keep 29 = .ok (.dup, 1) := by decide +kernel
theorem dX2_keep_30 : decode cX2_keep 30 = .ok (.getfield 22, 3) := by decide +kernel
theorem dX2_keep_33 : decode cX2_keep 33 = .ok (.iconst 1, 1) := by decide +kernel
theorem dX2_keep_34 : decode cX2_keep 34 = .ok (.iadd, 1) := by decide +kernel
theorem dX2_keep_35 : decode cX2_keep 35 = .ok (.putfield 22, 3) := by decide +kernel
theorem dX2_keep_38 : decode cX2_keep 38 = .ok (.goto 15, 3) := by decide +kernel
theorem dX2_keep_41 : decode cX2_keep 41 = .ok (.aload_n 0, 1) := by decide +kernel
theorem dX2_keep_42 : decode cX2_keep 42 = .ok (.aload_n 0, 1) := by decide +kernel
theorem dX2_keep_43 : decode cX2_keep 43 = .ok (.getfield 18, 3) := by decide +kernel
theorem dX2_keep_46 : decode cX2_keep 46 = .ok (.iconst 1, 1) := by decide +kernel
theorem dX2_keep_47 : decode cX2_keep 47 = .ok (.iadd, 1) := by decide +kernel
theorem dX2_keep_48 : decode cX2_keep 48 = .ok (.iconst 4, 1) := by decide +kernel
theorem dX2_keep_49 : decode cX2_keep 49 = .ok (.irem, 1) := by decide +kernel
theorem dX2_keep_50 : decode cX2_keep 50 = .ok (.putfield 18, 3) := by decide +kernel
theorem dX2_keep_53 : decode cX2_keep 53 = .ok (.return_, 1) := by decide +kernel
theorem dX2_restoreInto_0 : decode cX2_restoreInto 0 = .ok (.aload_n 0, 1) := by decide +kernel
theorem dX2_restoreInto_1 : decode cX2_restoreInto 1 = .ok (.dup, 1) := by decide +kernel
theorem dX2_restoreInto_2 : decode cX2_restoreInto 2 = .ok (.getfield 22, 3) := by decide +kernel
theorem dX2_restoreInto_5 : decode cX2_restoreInto 5 = .ok (.iconst 1, 1) := by decide +kernel
theorem dX2_restoreInto_6 : decode cX2_restoreInto 6 = .ok (.isub, 1) := by decide +kernel
theorem dX2_restoreInto_7 : decode cX2_restoreInto 7 = .ok (.putfield 22, 3) := by decide +kernel
theorem dX2_restoreInto_10 : decode cX2_restoreInto 10 = .ok (.aload_n 1, 1) := by decide +kernel
theorem dX2_restoreInto_11 : decode cX2_restoreInto 11 = .ok (.aload_n 0, 1) := by decide +kernel
theorem dX2_restoreInto_12 : decode cX2_restoreInto 12 = .ok (.getfield 11, 3) := by decide +kernel
theorem dX2_restoreInto_15 : decode cX2_restoreInto 15 = .ok (.aload_n 0, 1) := by decide +kernel
theorem dX2_restoreInto_16 : decode cX2_restoreInto 16 = .ok (.getfield 18, 3) := by decide +kernel
theorem dX2_restoreInto_19 : decode cX2_restoreInto 19 = .ok (.aload_n 0, 1) := by decide +kernel
theorem dX2_restoreInto_20 : decode cX2_restoreInto 20 = .ok (.getfield 22, 3) := by decide +kernel
theorem dX2_restoreInto_23 : decode cX2_restoreInto 23 = .ok (.iadd, 1) := by decide +kernel
theorem dX2_restoreInto_24 : decode cX2_restoreInto 24 = .ok (.iconst 4, 1) := by decide +kernel
theorem dX2_restoreInto_25 : decode cX2_restoreInto 25 = .ok (.irem, 1) := by decide +kernel
theorem dX2_restoreInto_26 : decode cX2_restoreInto 26 = .ok (.aaload, 1) := by decide +kernel
theorem dX2_restoreInto_27 : decode cX2_restoreInto 27 = .ok (.invokevirtual 25, 3) := by decide +kernel
theorem dX2_restoreInto_30 : decode cX2_restoreInto 30 = .ok (.return_, 1) := by decide +kernel
theorem dX3_init_0 : decode cX3_init 0 = .ok (.aload_n 0, 1) := by decide +kernel
theorem dX3_init_1 : decode cX3_init 1 = .ok (.invokespecial 3, 3) := by decide +kernel
theorem dX3_init_4 : decode cX3_init 4 = .ok (.aload_n 0, 1) := by decide +kernel
theorem dX3_init_5 : decode cX3_init 5 = .ok (.bipush 6, 2) := by decide +kernel
theorem dX3_init_7 : decode cX3_init 7 = .ok (.anewarray 9, 3) := by decide +kernel
theorem dX3_init_10 : decode cX3_init 10 = .ok (.putfield 11, 3) := by decide +kernel
theorem dX3_init_13 : decode cX3_init 13 = .ok (.iconst 0, 1) := by decide +kernel
theorem dX3_init_14 : decode cX3_init 14 = .ok (.istore_n 1, 1) := by decide +kernel
theorem dX3_init_15 : decode cX3_init 15 = .ok (.iload_n 1, 1) := by decide +kernel
theorem dX3_init_16 : decode cX3_init 16 = .ok (.bipush 6, 2) := by decide +kernel
theorem dX3_init_18 : decode cX3_init 18 = .ok (.if_icmp .ge 22, 3) := by decide +kernel
theorem dX3_init_21 : decode cX3_init 21 = .ok (.aload_n 0, 1) := by decide +kernel
theorem dX3_init_22 : decode cX3_init 22 = .ok (.getfield 11, 3) := by decide +kernel
theorem dX3_init_25 : decode cX3_init 25 = .ok (.iload_n 1, 1) := by decide +kernel
theorem dX3_init_26 : decode cX3_init 26 = .ok (.new 9, 3) := by decide +kernel
theorem dX3_init_29 : decode cX3_init 29 = .ok (.dup, 1) := by decide +kernel
theorem dX3_init_30 : decode cX3_init 30 = .ok (.invokespecial 17, 3) := by decide +kernel
theorem dX3_init_33 : decode cX3_init 33 = .ok (.aastore, 1) := by decide +kernel
theorem dX3_init_34 : decode cX3_init 34 = .ok (.iinc 1 1, 3) := by decide +kernel
theorem dX3_init_37 : decode cX3_init 37 = .ok (.goto (-22), 3) := by decide +kernel
theorem dX3_init_40 : decode cX3_init 40 = .ok (.aload_n 0, 1) := by decide +kernel
theorem dX3_init_41 : decode cX3_init 41 = .ok (.bipush 8, 2) := by decide +kernel
theorem dX3_init_43 : decode cX3_init 43 = .ok (.anewarray 18, 3) := by decide +kernel
theorem dX3_init_46 : decode cX3_init 46 = .ok (.putfield 20, 3) := by decide +kernel
theorem dX3_init_49 : decode cX3_init 49 = .ok (.iconst 0, 1) := by decide +kernel
theorem dX3_init_50 : decode cX3_init 50 = .ok (.istore_n 1, 1) := by decide +kernel
theorem dX3_init_51 : decode cX3_init 51 = .ok (.iload_n 1, 1) := by decide +kernel
theorem dX3_init_52 : decode cX3_init 52 = .ok (.bipush 8, 2) := by decide +kernel
theorem dX3_init_54 : decode cX3_init 54 = .ok (.if_icmp .ge 22, 3) := by decide +kernel
theorem dX3_init_57 : decode cX3_init 57 = .ok (.aload_n 0, 1) := by decide +kernel
theorem dX3_init_58 : decode cX3_init 58 = .ok (.getfield 20, 3) := by decide +kernel
theorem dX3_init_61 : decode cX3_init 61 = .ok (.iload_n 1, 1) := by decide +kernel
theorem dX3_init_62 : decode cX3_init 62 = .ok (.new 18, 3) := by decide +kernel
theorem dX3_init_65 : decode cX3_init 65 = .ok (.dup, 1) := by decide +kernel
theorem dX3_init_66 : decode cX3_init 66 = .ok (.invokespecial 24, 3) := by decide +kernel
theorem dX3_init_69 : decode cX3_init 69 = .ok (.aastore, 1) := by decide +kernel
theorem dX3_init_70 : decode cX3_init 70 = .ok (.iinc 1 1, 3) := by decide +kernel
theorem dX3_init_73 : decode cX3_init 73 = .ok (.goto (-22), 3) := by decide +kernel
theorem dX3_init_76 : decode cX3_init 76 = .ok (.aload_n 0, 1) := by decide +kernel
theorem dX3_init_77 : decode cX3_init 77 = .ok (.iconst 3, 1) := by decide +kernel
theorem dX3_init_78 : decode cX3_init 78 = .ok (.newarray .int, 2) := by decide +kernel
theorem dX3_init_80 : decode cX3_init 80 = .ok (.putfield 25, 3) := by decide +kernel
theorem dX3_init_83 : decode cX3_init 83 = .ok (.iconst 0, 1) := by decide +kernel
theorem dX3_init_84 : decode cX3_init 84 = .ok (.istore_n 1, 1) := by decide +kernel
theorem dX3_init_85 : decode cX3_init 85 = .ok (.iload_n 1, 1) := by decide +kernel
theorem dX3_init_86 : decode cX3_init 86 = .ok (.iconst 3, 1) := by decide +kernel
theorem dX3_init_87 : decode cX3_init 87 = .ok (.if_icmp .ge 20, 3) := by decide +kernel
theorem dX3_init_90 : decode cX3_init 90 = .ok (.aload_n 0, 1) := by decide +kernel
theorem dX3_init_91 : decode cX3_init 91 = .ok (.getfield 25, 3) := by decide +kernel
theorem dX3_init_94 : decode cX3_init 94 = .ok (.iload_n 1, 1) := by decide +kernel
theorem dX3_init_95 : decode cX3_init 95 = .ok (.getstatic 29, 3) := by decide +kernel
theorem dX3_init_98 : decode cX3_init 98 = .ok (.iload_n 1, 1) := by decide +kernel
theorem dX3_init_99 : decode cX3_init 99 = .ok (.iaload, 1) := by decide +kernel
theorem dX3_init_100 : decode cX3_init 100 = .ok (.iastore, 1) := by decide +kernel
theorem dX3_init_101 : decode cX3_init 101 = .ok (.iinc 1 1, 3) := by decide +kernel
theorem dX3_init_104 : decode cX3_init 104 = .ok (.goto (-19), 3) := by decide +kernel
theorem dX3_init_107 : decode cX3_init 107 = .ok (.return_, 1) := by decide +kernel
theorem dX3_copyFrom_0 : decode cX3_copyFrom 0 = .ok (.aload_n 0, 1) := by decide +kernel
theorem dX3_copyFrom_1 : decode cX3_copyFrom 1 = .ok (.aload_n 1, 1) := by decide +kernel
theorem dX3_copyFrom_2 : decode cX3_copyFrom 2 = .ok (.getfield 32, 3) := by decide +kernel
theorem dX3_copyFrom_5 : decode cX3_copyFrom 5 = .ok (.putfield 32, 3) := by decide +kernel
theorem dX3_copyFrom_8 : decode cX3_copyFrom 8 = .ok (.iconst 0, 1) := by decide +kernel
theorem dX3_copyFrom_9 : decode cX3_copyFrom 9 = .ok (.istore_n 2, 1) := by decide +kernel
theorem dX3_copyFrom_10 : decode cX3_copyFrom 10 = .ok (.iload_n 2, 1) := by decide +kernel
theorem dX3_copyFrom_11 : decode cX3_copyFrom 11 = .ok (.aload_n 0, 1) := by decide +kernel
theorem dX3_copyFrom_12 : decode cX3_copyFrom 12 = .ok (.getfield 32, 3) := by decide +kernel
theorem dX3_copyFrom_15 : decode cX3_copyFrom 15 = .ok (.if_icmp .ge 24, 3) := by decide +kernel
theorem dX3_copyFrom_18 : decode cX3_copyFrom 18 = .ok (.aload_n 0, 1) := by decide +kernel
theorem dX3_copyFrom_19 : decode cX3_copyFrom 19 = .ok (.getfield 11, 3) := by decide +kernel
theorem dX3_copyFrom_22 : decode cX3_copyFrom 22 = .ok (.iload_n 2, 1) := by decide +kernel
theorem dX3_copyFrom_23 : decode cX3_copyFrom 23 = .ok (.aaload, 1) := by decide +kernel
theorem dX3_copyFrom_24 : decode cX3_copyFrom 24 = .ok (.aload_n 1, 1) := by decide +kernel
theorem dX3_copyFrom_25 : decode cX3_copyFrom 25 = .ok (.getfield 11, 3) := by decide +kernel
theorem dX3_copyFrom_28 : decode cX3_copyFrom 28 = .ok (.iload_n 2, 1) := by decide +kernel
theorem dX3_copyFrom_29 : decode cX3_copyFrom 29 = .ok (.aaload, 1) := by decide +kernel
theorem dX3_copyFrom_30 : decode cX3_copyFrom 30 = .ok (.invokevirtual 36, 3) := by decide +kernel
theorem dX3_copyFrom_33 : decode cX3_copyFrom 33 = .ok (.iinc 2 1, 3) := by decide +kernel
theorem dX3_copyFrom_36 : decode cX3_copyFrom 36 = .ok (.goto (-26), 3) := by decide +kernel
theorem dX3_copyFrom_39 : decode cX3_copyFrom 39 = .ok (.aload_n 0, 1) := by decide +kernel
theorem dX3_copyFrom_40 : decode cX3_copyFrom 40 = .ok (.aload_n 1, 1) := by decide +kernel
theorem dX3_copyFrom_41 : decode cX3_copyFrom 41 = .ok (.getfield 40, 3) := by decide +kernel
theorem dX3_copyFrom_44 : decode cX3_copyFrom 44 = .ok (.putfield 40, 3) := by decide +kernel
theorem dX3_copyFrom_47 : decode cX3_copyFrom 47 = .ok (.iconst 0, 1) := by decide +kernel
theorem dX3_copyFrom_48 : decode cX3_copyFrom 48 = .ok (.istore_n 2, 1) := by decide +kernel
theorem dX3_copyFrom_49 : decode cX3_copyFrom 49 = .ok (.iload_n 2, 1) := by decide +kernel
theorem dX3_copyFrom_50 : decode cX3_copyFrom 50 = .ok (.aload_n 0, 1) := by decide +kernel
theorem dX3_copyFrom_51 : decode cX3_copyFrom 51 = .ok (.getfield 40, 3) := by decide +kernel
theorem dX3_copyFrom_54 : decode cX3_copyFrom 54 = .ok (.if_icmp .ge 24, 3) := by decide +kernel
theorem dX3_copyFrom_57 : decode cX3_copyFrom 57 = .ok (.aload_n 0, 1) := by decide +kernel
theorem dX3_copyFrom_58 : decode cX3_copyFrom 58 = .ok (.getfield 20, 3) := by decide +kernel
theorem dX3_copyFrom_61 : decode cX3_copyFrom 61 = .ok (.iload_n 2, 1) := by decide +kernel
theorem dX3_copyFrom_62 : decode cX3_copyFrom 62 = .ok (.aaload, 1) := by decide +kernel
theorem dX3_copyFrom_63 : decode cX3_copyFrom 63 = .ok (.aload_n 1, 1) := by decide +kernel
theorem dX3_copyFrom_64 : decode cX3_copyFrom 64 = .ok (.getfield 20, 3) := by decide +kernel
theorem dX3_copyFrom_67 : decode cX3_copyFrom 67 = .ok (.iload_n 2, 1) := by decide +kernel
theorem dX3_copyFrom_68 : decode cX3_copyFrom 68 = .ok (.aaload, 1) := by decide +kernel
theorem dX3_copyFrom_69 : decode cX3_copyFrom 69 = .ok (.invokevirtual 43, 3) := by decide +kernel
theorem dX3_copyFrom_72 : decode cX3_copyFrom 72 = .ok (.iinc 2 1, 3) := by decide +kernel
theorem dX3_copyFrom_75 : decode cX3_copyFrom 75 = .ok (.goto (-26), 3) := by decide +kernel
theorem dX3_copyFrom_78 : decode cX3_copyFrom 78 = .ok (.aload_n 1, 1) := by decide +kernel
theorem dX3_copyFrom_79 : decode cX3_copyFrom 79 = .ok (.getfield 25, 3) := by decide +kernel
theorem dX3_copyFrom_82 : decode cX3_copyFrom 82 = .ok (.iconst 0, 1) := by decide +kernel
theorem dX3_copyFrom_83 : decode cX3_copyFrom 83 = .ok (.aload_n 0, 1) := by decide +kernel
theorem dX3_copyFrom_84 : decode cX3_copyFrom 84 = .ok (.getfield 25, 3) := by decide +kernel
theorem dX3_copyFrom_87 : decode cX3_copyFrom 87 = .ok (.iconst 0, 1) := by decide +kernel
theorem dX3_copyFrom_88 : decode cX3_copyFrom 88 = .ok (.iconst 3, 1) := by decide +kernel
theorem dX3_copyFrom_89 : decode cX3_copyFrom 89 = .ok (.invokestatic 46, 3) := by decide +kernel
theorem dX3_copyFrom_92 : decode cX3_copyFrom 92 = .ok (.aload_n 0, 1) := by decide +kernel
theorem dX3_copyFrom_93 : decode cX3_copyFrom 93 = .ok (.aload_n 1, 1) := by decide +kernel
theorem dX3_copyFrom_94 : decode cX3_copyFrom 94 = .ok (.getfield 52, 3) := by decide +kernel
theorem dX3_copyFrom_97 : decode cX3_copyFrom 97 = .ok (.putfield 52, 3) := by decide +kernel
theorem dX3_copyFrom_100 : decode cX3_copyFrom 100 = .ok (.aload_n 0, 1) := by decide +kernel
theorem dX3_copyFrom_101 : decode cX3_copyFrom 101 = .ok (.aload_n 1, 1) := by decide +kernel
theorem dX3_copyFrom_102 : decode cX3_copyFrom 102 = .ok (.getfield 55, 3) := by decide +kernel
theorem dX3_copyFrom_105 : decode cX3_copyFrom 105 = .ok (.putfield 55, 3) := by decide +kernel
theorem dX3_copyFrom_108 : decode cX3_copyFrom 108 = .ok (.aload_n 0, 1) := by decide +kernel
theorem dX3_copyFrom_109 : decode cX3_copyFrom 109 = .ok (.aload_n 1, 1) := by decide +kernel
theorem dX3_copyFrom_110 : decode cX3_copyFrom 110 = .ok (.getfield 58, 3) := by decide +kernel
theorem dX3_copyFrom_113 : decode cX3_copyFrom 113 = .ok (.putfield 58, 3) := by decide +kernel
theorem dX3_copyFrom_116 : decode cX3_copyFrom 116 = .ok (.aload_n 0, 1) := by decide +kernel
theorem dX3_copyFrom_117 : decode cX3_copyFrom 117 = .ok (.aload_n 1, 1) := by decide +kernel
theorem dX3_copyFrom_118 : decode cX3_copyFrom 118 = .ok (.getfield 61, 3) := by decide +kernel
theorem dX3_copyFrom_121 : decode cX3_copyFrom 121 = .ok (.putfield 61, 3) := by decide +kernel
theorem dX3_copyFrom_124 : decode cX3_copyFrom 124 = .ok (.aload_n 0, 1) := by decide +kernel
theorem dX3_copyFrom_125 : decode cX3_copyFrom 125 = .ok (.aload_n 1, 1) := by decide +kernel
theorem dX3_copyFrom_126 : decode cX3_copyFrom 126 = .ok (.getfield 64, 3) := by decide +kernel
theorem dX3_copyFrom_129 : decode cX3_copyFrom 129 = .ok (.putfield 64, 3) := by decide +kernel
theorem dX3_copyFrom_132 : decode cX3_copyFrom 132 = .ok (.return_, 1) := by decide +kernel
theorem dX3_sittersOf_0 : decode cX3_sittersOf 0 = .ok (.iconst 0, 1) := by decide +kernel
theorem dX3_sittersOf_1 : decode cX3_sittersOf 1 = .ok (.istore_n 2, 1) := by decide +kernel
theorem dX3_sittersOf_2 : decode cX3_sittersOf 2 = .ok (.iconst 0, 1) := by decide +kernel
theorem dX3_sittersOf_3 : decode cX3_sittersOf 3 = .ok (.istore_n 3, 1) := by decide +kernel
theorem dX3_sittersOf_4 : decode cX3_sittersOf 4 = .ok (.iload_n 3, 1) := by decide +kernel
theorem dX3_sittersOf_5 : decode cX3_sittersOf 5 = .ok (.aload_n 0, 1) := by decide +kernel
theorem dX3_sittersOf_6 : decode cX3_sittersOf 6 = .ok (.getfield 32, 3) := by decide +kernel
theorem dX3_sittersOf_9 : decode cX3_sittersOf 9 = .ok (.if_icmp .ge 25, 3) := by decide +kernel
theorem dX3_sittersOf_12 : decode cX3_sittersOf 12 = .ok (.aload_n 0, 1) := by decide +kernel
theorem dX3_sittersOf_13 : decode cX3_sittersOf 13 = .ok (.getfield 11, 3) := by decide +kernel
theorem dX3_sittersOf_16 : decode cX3_sittersOf 16 = .ok (.iload_n 3, 1) := by decide +kernel
theorem dX3_sittersOf_17 : decode cX3_sittersOf 17 = .ok (.aaload, 1) := by decide +kernel
theorem dX3_sittersOf_18 : decode cX3_sittersOf 18 = .ok (.getfield 68, 3) := by decide +kernel
theorem dX3_sittersOf_21 : decode cX3_sittersOf 21 = .ok (.iload_n 1, 1) := by decide +kernel
theorem dX3_sittersOf_22 : decode cX3_sittersOf 22 = .ok (.if_icmp .ne 6, 3) := by decide +kernel
theorem dX3_sittersOf_25 : decode cX3_sittersOf 25 = .ok (.iinc 2 1, 3) := by decide +kernel
theorem dX3_sittersOf_28 : decode cX3_sittersOf 28 = .ok (.iinc 3 1, 3) := by decide +kernel
theorem dX3_sittersOf_31 : decode cX3_sittersOf 31 = .ok (.goto (-27), 3) := by decide +kernel
theorem dX3_sittersOf_34 : decode cX3_sittersOf 34 = .ok (.iload_n 2, 1) := by decide +kernel
theorem dX3_sittersOf_35 : decode cX3_sittersOf 35 = .ok (.ireturn, 1) := by decide +kernel
theorem dX3_lowestFreeSeat_0 : decode cX3_lowestFreeSeat 0 = .ok (.iconst 0, 1) := by decide +kernel
theorem dX3_lowestFreeSeat_1 : decode cX3_lowestFreeSeat 1 = .ok (.istore_n 2, 1) := by decide +kernel
theorem dX3_lowestFreeSeat_2 : decode cX3_lowestFreeSeat 2 = .ok (.iload_n 2, 1) := by decide +kernel
theorem dX3_lowestFreeSeat_3 : decode cX3_lowestFreeSeat 3 = .ok (.iconst 2, 1) := by decide +kernel
theorem dX3_lowestFreeSeat_4 : decode cX3_lowestFreeSeat 4 = .ok (.if_icmp .ge 20, 3) := by decide +kernel
theorem dX3_lowestFreeSeat_7 : decode cX3_lowestFreeSeat 7 = .ok (.aload_n 0, 1) := by decide +kernel
theorem dX3_lowestFreeSeat_8 : decode cX3_lowestFreeSeat 8 = .ok (.iload_n 1, 1) := by decide +kernel
theorem dX3_lowestFreeSeat_9 : decode cX3_lowestFreeSeat 9 = .ok (.iload_n 2, 1) := by decide +kernel
theorem dX3_lowestFreeSeat_10 : decode cX3_lowestFreeSeat 10 = .ok (.invokevirtual 71, 3) := by decide +kernel
theorem dX3_lowestFreeSeat_13 : decode cX3_lowestFreeSeat 13 = .ok (.ifCond .ne 5, 3) := by decide +kernel
theorem dX3_lowestFreeSeat_16 : decode cX3_lowestFreeSeat 16 = .ok (.iload_n 2, 1) := by decide +kernel
theorem dX3_lowestFreeSeat_17 : decode cX3_lowestFreeSeat 17 = .ok (.ireturn, 1) := by decide +kernel
theorem dX3_lowestFreeSeat_18 : decode cX3_lowestFreeSeat 18 = .ok (.iinc 2 1, 3) := by decide +kernel
theorem dX3_lowestFreeSeat_21 : decode cX3_lowestFreeSeat 21 = .ok (.goto (-19), 3) := by decide +kernel
theorem dX3_lowestFreeSeat_24 : decode cX3_lowestFreeSeat 24 = .ok (.iconst (-1), 1) := by decide +kernel
theorem dX3_lowestFreeSeat_25 : decode cX3_lowestFreeSeat 25 = .ok (.ireturn, 1) := by decide +kernel
theorem dX3_isTaken_0 : decode cX3_isTaken 0 = .ok (.iconst 0, 1) := by decide +kernel
theorem dX3_isTaken_1 : decode cX3_isTaken 1 = .ok (.istore_n 3, 1) := by decide +kernel
theorem dX3_isTaken_2 : decode cX3_isTaken 2 = .ok (.iload_n 3, 1) := by decide +kernel
theorem dX3_isTaken_3 : decode cX3_isTaken 3 = .ok (.aload_n 0, 1) := by decide +kernel
theorem dX3_isTaken_4 : decode cX3_isTaken 4 = .ok (.getfield 32, 3) := by decide +kernel
theorem dX3_isTaken_7 : decode cX3_isTaken 7 = .ok (.if_icmp .ge 37, 3) := by decide +kernel
theorem dX3_isTaken_10 : decode cX3_isTaken 10 = .ok (.aload_n 0, 1) := by decide +kernel
theorem dX3_isTaken_11 : decode cX3_isTaken 11 = .ok (.getfield 11, 3) := by decide +kernel
theorem dX3_isTaken_14 : decode cX3_isTaken 14 = .ok (.iload_n 3, 1) := by decide +kernel
theorem dX3_isTaken_15 : decode cX3_isTaken 15 = .ok (.aaload, 1) := by decide +kernel
theorem dX3_isTaken_16 : decode cX3_isTaken 16 = .ok (.getfield 68, 3) := by decide +kernel
theorem dX3_isTaken_19 : decode cX3_isTaken 19 = .ok (.iload_n 1, 1) := by decide +kernel
theorem dX3_isTaken_20 : decode cX3_isTaken 20 = .ok (.if_icmp .ne 18, 3) := by decide +kernel
theorem dX3_isTaken_23 : decode cX3_isTaken 23 = .ok (.aload_n 0, 1) := by decide +kernel
theorem dX3_isTaken_24 : decode cX3_isTaken 24 = .ok (.getfield 11, 3) := by decide +kernel
theorem dX3_isTaken_27 : decode cX3_isTaken 27 = .ok (.iload_n 3, 1) := by decide +kernel
theorem dX3_isTaken_28 : decode cX3_isTaken 28 = .ok (.aaload, 1) := by decide +kernel
theorem dX3_isTaken_29 : decode cX3_isTaken 29 = .ok (.getfield 75, 3) := by decide +kernel
theorem dX3_isTaken_32 : decode cX3_isTaken 32 = .ok (.iload_n 2, 1) := by decide +kernel
theorem dX3_isTaken_33 : decode cX3_isTaken 33 = .ok (.if_icmp .ne 5, 3) := by decide +kernel
theorem dX3_isTaken_36 : decode cX3_isTaken 36 = .ok (.iconst 1, 1) := by decide +kernel
theorem dX3_isTaken_37 : decode cX3_isTaken 37 = .ok (.ireturn, 1) := by decide +kernel
theorem dX3_isTaken_38 : decode cX3_isTaken 38 = .ok (.iinc 3 1, 3) := by decide +kernel
theorem dX3_isTaken_41 : decode cX3_isTaken 41 = .ok (.goto (-39), 3) := by decide +kernel
theorem dX3_isTaken_44 : decode cX3_isTaken 44 = .ok (.iconst 0, 1) := by decide +kernel
theorem dX3_isTaken_45 : decode cX3_isTaken 45 = .ok (.ireturn, 1) := by decide +kernel
theorem dX3_seatedOracles_0 : decode cX3_seatedOracles 0 = .ok (.iconst 0, 1) := by decide +kernel
theorem dX3_seatedOracles_1 : decode cX3_seatedOracles 1 = .ok (.istore_n 1, 1) := by decide +kernel
theorem dX3_seatedOracles_2 : decode cX3_seatedOracles 2 = .ok (.iconst 0, 1) := by decide +kernel
theorem dX3_seatedOracles_3 : decode cX3_seatedOracles 3 = .ok (.istore_n 2, 1) := by decide +kernel
theorem dX3_seatedOracles_4 : decode cX3_seatedOracles 4 = .ok (.iload_n 2, 1) := by decide +kernel
theorem dX3_seatedOracles_5 : decode cX3_seatedOracles 5 = .ok (.aload_n 0, 1) := by decide +kernel
theorem dX3_seatedOracles_6 : decode cX3_seatedOracles 6 = .ok (.getfield 32, 3) := by decide +kernel
theorem dX3_seatedOracles_9 : decode cX3_seatedOracles 9 = .ok (.if_icmp .ge 24, 3) := by decide +kernel
theorem dX3_seatedOracles_12 : decode cX3_seatedOracles 12 = .ok (.aload_n 0, 1) := by decide +kernel
theorem dX3_seatedOracles_13 : decode cX3_seatedOracles 13 = .ok (.getfield 11, 3) := by decide +kernel
theorem dX3_seatedOracles_16 : decode cX3_seatedOracles 16 = .ok (.iload_n 2, 1) := by decide +kernel
theorem dX3_seatedOracles_17 : decode cX3_seatedOracles 17 = .ok (.aaload, 1) := by decide +kernel
theorem dX3_seatedOracles_18 : decode cX3_seatedOracles 18 = .ok (.invokevirtual 78, 3) := by decide +kernel
theorem dX3_seatedOracles_21 : decode cX3_seatedOracles 21 = .ok (.ifCond .eq 6, 3) := by decide +kernel
theorem dX3_seatedOracles_24 : decode cX3_seatedOracles 24 = .ok (.iinc 1 1, 3) := by decide +kernel
theorem dX3_seatedOracles_27 : decode cX3_seatedOracles 27 = .ok (.iinc 2 1, 3) := by decide +kernel
theorem dX3_seatedOracles_30 : decode cX3_seatedOracles 30 = .ok (.goto (-26), 3) := by decide +kernel
theorem dX3_seatedOracles_33 : decode cX3_seatedOracles 33 = .ok (.iload_n 1, 1) := by decide +kernel
theorem dX3_seatedOracles_34 : decode cX3_seatedOracles 34 = .ok (.ireturn, 1) := by decide +kernel
theorem dX3_ruinedOracles_0 : decode cX3_ruinedOracles 0 = .ok (.iconst 0, 1) := by decide +kernel
theorem dX3_ruinedOracles_1 : decode cX3_ruinedOracles 1 = .ok (.istore_n 1, 1) := by decide +kernel
theorem dX3_ruinedOracles_2 : decode cX3_ruinedOracles 2 = .ok (.iconst 0, 1) := by decide +kernel
theorem dX3_ruinedOracles_3 : decode cX3_ruinedOracles 3 = .ok (.istore_n 2, 1) := by decide +kernel
theorem dX3_ruinedOracles_4 : decode cX3_ruinedOracles 4 = .ok (.iload_n 2, 1) := by decide +kernel
theorem dX3_ruinedOracles_5 : decode cX3_ruinedOracles 5 = .ok (.aload_n 0, 1) := by decide +kernel
theorem dX3_ruinedOracles_6 : decode cX3_ruinedOracles 6 = .ok (.getfield 32, 3) := by decide +kernel
theorem dX3_ruinedOracles_9 : decode cX3_ruinedOracles 9 = .ok (.if_icmp .ge 24, 3) := by decide +kernel
theorem dX3_ruinedOracles_12 : decode cX3_ruinedOracles 12 = .ok (.aload_n 0, 1) := by decide +kernel
theorem dX3_ruinedOracles_13 : decode cX3_ruinedOracles 13 = .ok (.getfield 11, 3) := by decide +kernel
theorem dX3_ruinedOracles_16 : decode cX3_ruinedOracles 16 = .ok (.iload_n 2, 1) := by decide +kernel
theorem dX3_ruinedOracles_17 : decode cX3_ruinedOracles 17 = .ok (.aaload, 1) := by decide +kernel
theorem dX3_ruinedOracles_18 : decode cX3_ruinedOracles 18 = .ok (.invokevirtual 82, 3) := by decide +kernel
theorem dX3_ruinedOracles_21 : decode cX3_ruinedOracles 21 = .ok (.ifCond .eq 6, 3) := by decide +kernel
theorem dX3_ruinedOracles_24 : decode cX3_ruinedOracles 24 = .ok (.iinc 1 1, 3) := by decide +kernel
theorem dX3_ruinedOracles_27 : decode cX3_ruinedOracles 27 = .ok (.iinc 2 1, 3) := by decide +kernel
theorem dX3_ruinedOracles_30 : decode cX3_ruinedOracles 30 = .ok (.goto (-26), 3) := by decide +kernel
theorem dX3_ruinedOracles_33 : decode cX3_ruinedOracles 33 = .ok (.iload_n 1, 1) := by decide +kernel
theorem dX3_ruinedOracles_34 : decode cX3_ruinedOracles 34 = .ok (.ireturn, 1) := by decide +kernel
theorem dX3_allCoins_0 : decode cX3_allCoins 0 = .ok (.aload_n 0, 1) := by decide +kernel
theorem dX3_allCoins_1 : decode cX3_allCoins 1 = .ok (.getfield 52, 3) := by decide +kernel
theorem dX3_allCoins_4 : decode cX3_allCoins 4 = .ok (.istore_n 1, 1) := by decide +kernel
theorem dX3_allCoins_5 : decode cX3_allCoins 5 = .ok (.iconst 0, 1) := by decide +kernel
theorem dX3_allCoins_6 : decode cX3_allCoins 6 = .ok (.istore_n 2, 1) := by decide +kernel
theorem dX3_allCoins_7 : decode cX3_allCoins 7 = .ok (.iload_n 2, 1) := by decide +kernel
theorem dX3_allCoins_8 : decode cX3_allCoins 8 = .ok (.aload_n 0, 1) := by decide +kernel
theorem dX3_allCoins_9 : decode cX3_allCoins 9 = .ok (.getfield 32, 3) := by decide +kernel
theorem dX3_allCoins_12 : decode cX3_allCoins 12 = .ok (.if_icmp .ge 21, 3) := by decide +kernel
theorem dX3_allCoins_15 : decode cX3_allCoins 15 = .ok (.iload_n 1, 1) := by decide +kernel
theorem dX3_allCoins_16 : decode cX3_allCoins 16 = .ok (.aload_n 0, 1) := by decide +kernel
theorem dX3_allCoins_17 : decode cX3_allCoins 17 = .ok (.getfield 11, 3) := by decide +kernel
theorem dX3_allCoins_20 : decode cX3_allCoins 20 = .ok (.iload_n 2, 1) := by decide +kernel
theorem dX3_allCoins_21 : decode cX3_allCoins 21 = .ok (.aaload, 1) := by decide +kernel
theorem dX3_allCoins_22 : decode cX3_allCoins 22 = .ok (.getfield 85, 3) := by decide +kernel
theorem dX3_allCoins_25 : decode cX3_allCoins 25 = .ok (.iadd, 1) := by decide +kernel
theorem dX3_allCoins_26 : decode cX3_allCoins 26 = .ok (.istore_n 1, 1) := by decide +kernel
theorem dX3_allCoins_27 : decode cX3_allCoins 27 = .ok (.iinc 2 1, 3) := by decide +kernel
theorem dX3_allCoins_30 : decode cX3_allCoins 30 = .ok (.goto (-23), 3) := by decide +kernel
theorem dX3_allCoins_33 : decode cX3_allCoins 33 = .ok (.iload_n 1, 1) := by decide +kernel
theorem dX3_allCoins_34 : decode cX3_allCoins 34 = .ok (.ireturn, 1) := by decide +kernel
theorem dX3_richerThan_0 : decode cX3_richerThan 0 = .ok (.aload_n 0, 1) := by decide +kernel
theorem dX3_richerThan_1 : decode cX3_richerThan 1 = .ok (.getfield 11, 3) := by decide +kernel
theorem dX3_richerThan_4 : decode cX3_richerThan 4 = .ok (.iload_n 1, 1) := by decide +kernel
theorem dX3_richerThan_5 : decode cX3_richerThan 5 = .ok (.aaload, 1) := by decide +kernel
theorem dX3_richerThan_6 : decode cX3_richerThan 6 = .ok (.getfield 85, 3) := by decide +kernel
theorem dX3_richerThan_9 : decode cX3_richerThan 9 = .ok (.istore_n 2, 1) := by decide +kernel
theorem dX3_richerThan_10 : decode cX3_richerThan 10 = .ok (.iconst 0, 1) := by decide +kernel
theorem dX3_richerThan_11 : decode cX3_richerThan 11 = .ok (.istore_n 3, 1) := by decide +kernel
theorem dX3_richerThan_12 : decode cX3_richerThan 12 = .ok (.iconst 0, 1) := by decide +kernel
theorem dX3_richerThan_13 : decode cX3_richerThan 13 = .ok (.istore 4, 2) := by decide +kernel
theorem dX3_richerThan_15 : decode cX3_richerThan 15 = .ok (.iload 4, 2) := by decide +kernel
theorem dX3_richerThan_17 : decode cX3_richerThan 17 = .ok (.aload_n 0, 1) := by decide +kernel
theorem dX3_richerThan_18 : decode cX3_richerThan 18 = .ok (.getfield 32, 3) := by decide +kernel
theorem dX3_richerThan_21 : decode cX3_richerThan 21 = .ok (.if_icmp .ge 46, 3) := by decide +kernel
theorem dX3_richerThan_24 : decode cX3_richerThan 24 = .ok (.aload_n 0, 1) := by decide +kernel
theorem dX3_richerThan_25 : decode cX3_richerThan 25 = .ok (.getfield 11, 3) := by decide +kernel
theorem dX3_richerThan_28 : decode cX3_richerThan 28 = .ok (.iload 4, 2) := by decide +kernel
theorem dX3_richerThan_30 : decode cX3_richerThan 30 = .ok (.aaload, 1) := by decide +kernel
theorem dX3_richerThan_31 : decode cX3_richerThan 31 = .ok (.getfield 85, 3) := by decide +kernel
theorem dX3_richerThan_34 : decode cX3_richerThan 34 = .ok (.iload_n 2, 1) := by decide +kernel
theorem dX3_richerThan_35 : decode cX3_richerThan 35 = .ok (.if_icmp .gt 23, 3) := by decide +kernel
theorem dX3_richerThan_38 : decode cX3_richerThan 38 = .ok (.aload_n 0, 1) := by decide +kernel
theorem dX3_richerThan_39 : decode cX3_richerThan 39 = .ok (.getfield 11, 3) := by decide +kernel
theorem dX3_richerThan_42 : decode cX3_richerThan 42 = .ok (.iload 4, 2) := by decide +kernel
theorem dX3_richerThan_44 : decode cX3_richerThan 44 = .ok (.aaload, 1) := by decide +kernel
theorem dX3_richerThan_45 : decode cX3_richerThan 45 = .ok (.getfield 85, 3) := by decide +kernel
theorem dX3_richerThan_48 : decode cX3_richerThan 48 = .ok (.iload_n 2, 1) := by decide +kernel
theorem dX3_richerThan_49 : decode cX3_richerThan 49 = .ok (.if_icmp .ne 12, 3) := by decide +kernel
theorem dX3_richerThan_52 : decode cX3_richerThan 52 = .ok (.iload 4, 2) := by decide +kernel
theorem dX3_richerThan_54 : decode cX3_richerThan 54 = .ok (.iload_n 1, 1) := by decide +kernel
theorem dX3_richerThan_55 : decode cX3_richerThan 55 = .ok (.if_icmp .ge 6, 3) := by decide +kernel
theorem dX3_richerThan_58 : decode cX3_richerThan 58 = .ok (.iinc 3 1, 3) := by decide +kernel
theorem dX3_richerThan_61 : decode cX3_richerThan 61 = .ok (.iinc 4 1, 3) := by decide +kernel
theorem dX3_richerThan_64 : decode cX3_richerThan 64 = .ok (.goto (-49), 3) := by decide +kernel
theorem dX3_richerThan_67 : decode cX3_richerThan 67 = .ok (.iload_n 3, 1) := by decide +kernel
theorem dX3_richerThan_68 : decode cX3_richerThan 68 = .ok (.ireturn, 1) := by decide +kernel
theorem dX3_addLoan_0 : decode cX3_addLoan 0 = .ok (.aload_n 0, 1) := by decide +kernel
theorem dX3_addLoan_1 : decode cX3_addLoan 1 = .ok (.getfield 11, 3) := by decide +kernel
theorem dX3_addLoan_4 : decode cX3_addLoan 4 = .ok (.iload_n 1, 1) := by decide +kernel
theorem dX3_addLoan_5 : decode cX3_addLoan 5 = .ok (.aaload, 1) := by decide +kernel
theorem dX3_addLoan_6 : decode cX3_addLoan 6 = .ok (.dup, 1) := by decide +kernel
theorem dX3_addLoan_7 : decode cX3_addLoan 7 = .ok (.getfield 85, 3) := by decide +kernel
theorem dX3_addLoan_10 : decode cX3_addLoan 10 = .ok (.iload_n 3, 1) := by decide +kernel
theorem dX3_addLoan_11 : decode cX3_addLoan 11 = .ok (.isub, 1) := by decide +kernel
theorem dX3_addLoan_12 : decode cX3_addLoan 12 = .ok (.putfield 85, 3) := by decide +kernel
theorem dX3_addLoan_15 : decode cX3_addLoan 15 = .ok (.aload_n 0, 1) := by decide +kernel
theorem dX3_addLoan_16 : decode cX3_addLoan 16 = .ok (.getfield 11, 3) := by decide +kernel
theorem dX3_addLoan_19 : decode cX3_addLoan 19 = .ok (.iload_n 2, 1) := by decide +kernel
theorem dX3_addLoan_20 : decode cX3_addLoan 20 = .ok (.aaload, 1) := by decide +kernel
theorem dX3_addLoan_21 : decode cX3_addLoan 21 = .ok (.dup, 1) := by decide +kernel
theorem dX3_addLoan_22 : decode cX3_addLoan 22 = .ok (.getfield 85, 3) := by decide +kernel
theorem dX3_addLoan_25 : decode cX3_addLoan 25 = .ok (.iload_n 3, 1) := by decide +kernel
theorem dX3_addLoan_26 : decode cX3_addLoan 26 = .ok (.iadd, 1) := by decide +kernel
theorem dX3_addLoan_27 : decode cX3_addLoan 27 = .ok (.putfield 85, 3) := by decide +kernel
theorem dX3_addLoan_30 : decode cX3_addLoan 30 = .ok (.aload_n 0, 1) := by decide +kernel
theorem dX3_addLoan_31 : decode cX3_addLoan 31 = .ok (.getfield 40, 3) := by decide +kernel
theorem dX3_addLoan_34 : decode cX3_addLoan 34 = .ok (.istore 4, 2) := by decide +kernel
theorem dX3_addLoan_36 : decode cX3_addLoan 36 = .ok (.aload_n 0, 1) := by decide +kernel
theorem dX3_addLoan_37 : decode cX3_addLoan 37 = .ok (.getfield 20, 3) := by decide +kernel
theorem dX3_addLoan_40 : decode cX3_addLoan 40 = .ok (.iload 4, 2) := by decide +kernel
theorem dX3_addLoan_42 : decode cX3_addLoan 42 = .ok (.aaload, 1) := by decide +kernel
theorem dX3_addLoan_43 : decode cX3_addLoan 43 = .ok (.iload_n 1, 1) := by decide +kernel
theorem dX3_addLoan_44 : decode cX3_addLoan 44 = .ok (.putfield 88, 3) := by decide +kernel
theorem dX3_addLoan_47 : decode cX3_addLoan 47 = .ok (.aload_n 0, 1) := by decide +kernel
theorem dX3_addLoan_48 : decode cX3_addLoan 48 = .ok (.getfield 20, 3) := by decide +kernel
theorem dX3_addLoan_51 : decode cX3_addLoan 51 = .ok (.iload 4, 2) := by decide +kernel
theorem dX3_addLoan_53 : decode cX3_addLoan 53 = .ok (.aaload, 1) := by decide +kernel
theorem dX3_addLoan_54 : decode cX3_addLoan 54 = .ok (.iload_n 2, 1) := by decide +kernel
theorem dX3_addLoan_55 : decode cX3_addLoan 55 = .ok (.putfield 91, 3) := by decide +kernel
theorem dX3_addLoan_58 : decode cX3_addLoan 58 = .ok (.aload_n 0, 1) := by decide +kernel
theorem dX3_addLoan_59 : decode cX3_addLoan 59 = .ok (.getfield 20, 3) := by decide +kernel
theorem dX3_addLoan_62 : decode cX3_addLoan 62 = .ok (.iload 4, 2) := by decide +kernel
theorem dX3_addLoan_64 : decode cX3_addLoan 64 = .ok (.aaload, 1) := by decide +kernel
theorem dX3_addLoan_65 : decode cX3_addLoan 65 = .ok (.iload_n 3, 1) := by decide +kernel
theorem dX3_addLoan_66 : decode cX3_addLoan 66 = .ok (.putfield 94, 3) := by decide +kernel
theorem dX3_addLoan_69 : decode cX3_addLoan 69 = .ok (.aload_n 0, 1) := by decide +kernel
theorem dX3_addLoan_70 : decode cX3_addLoan 70 = .ok (.iload 4, 2) := by decide +kernel
theorem dX3_addLoan_72 : decode cX3_addLoan 72 = .ok (.iconst 1, 1) := by decide +kernel
theorem dX3_addLoan_73 : decode cX3_addLoan 73 = .ok (.iadd, 1) := by decide +kernel
theorem dX3_addLoan_74 : decode cX3_addLoan 74 = .ok (.putfield 40, 3) := by decide +kernel
theorem dX3_addLoan_77 : decode cX3_addLoan 77 = .ok (.iload 4, 2) := by decide +kernel
theorem dX3_addLoan_79 : decode cX3_addLoan 79 = .ok (.ireturn, 1) := by decide +kernel
theorem dX3_debtsOf_0 : decode cX3_debtsOf 0 = .ok (.iconst 0, 1) := by decide +kernel
theorem dX3_debtsOf_1 : decode cX3_debtsOf 1 = .ok (.istore_n 2, 1) := by decide +kernel
theorem dX3_debtsOf_2 : decode cX3_debtsOf 2 = .ok (.iconst 0, 1) := by decide +kernel
theorem dX3_debtsOf_3 : decode cX3_debtsOf 3 = .ok (.istore_n 3, 1) := by decide +kernel
theorem dX3_debtsOf_4 : decode cX3_debtsOf 4 = .ok (.iload_n 3, 1) := by decide +kernel
theorem dX3_debtsOf_5 : decode cX3_debtsOf 5 = .ok (.aload_n 0, 1) := by decide +kernel
theorem dX3_debtsOf_6 : decode cX3_debtsOf 6 = .ok (.getfield 40, 3) := by decide +kernel
theorem dX3_debtsOf_9 : decode cX3_debtsOf 9 = .ok (.if_icmp .ge 34, 3) := by decide +kernel
theorem dX3_debtsOf_12 : decode cX3_debtsOf 12 = .ok (.aload_n 0, 1) := by decide +kernel
theorem dX3_debtsOf_13 : decode cX3_debtsOf 13 = .ok (.getfield 20, 3) := by decide +kernel
theorem dX3_debtsOf_16 : decode cX3_debtsOf 16 = .ok (.iload_n 3, 1) := by decide +kernel
theorem dX3_debtsOf_17 : decode cX3_debtsOf 17 = .ok (.aaload, 1) := by decide +kernel
theorem dX3_debtsOf_18 : decode cX3_debtsOf 18 = .ok (.getfield 91, 3) := by decide +kernel
theorem dX3_debtsOf_21 : decode cX3_debtsOf 21 = .ok (.iload_n 1, 1) := by decide +kernel
theorem dX3_debtsOf_22 : decode cX3_debtsOf 22 = .ok (.if_icmp .ne 15, 3) := by decide +kernel
theorem dX3_debtsOf_25 : decode cX3_debtsOf 25 = .ok (.iload_n 2, 1) := by decide +kernel
theorem dX3_debtsOf_26 : decode cX3_debtsOf 26 = .ok (.aload_n 0, 1) := by decide +kernel
theorem dX3_debtsOf_27 : decode cX3_debtsOf 27 = .ok (.getfield 20, 3) := by decide +kernel
theorem dX3_debtsOf_30 : decode cX3_debtsOf 30 = .ok (.iload_n 3, 1) := by decide +kernel
theorem dX3_debtsOf_31 : decode cX3_debtsOf 31 = .ok (.aaload, 1) := by decide +kernel
theorem dX3_debtsOf_32 : decode cX3_debtsOf 32 = .ok (.getfield 94, 3) := by decide +kernel
theorem dX3_debtsOf_35 : decode cX3_debtsOf 35 = .ok (.iadd, 1) := by decide +kernel
theorem dX3_debtsOf_36 : decode cX3_debtsOf 36 = .ok (.istore_n 2, 1) := by decide +kernel
theorem dX3_debtsOf_37 : decode cX3_debtsOf 37 = .ok (.iinc 3 1, 3) := by decide +kernel
theorem dX3_debtsOf_40 : decode cX3_debtsOf 40 = .ok (.goto (-36), 3) := by decide +kernel
theorem dX3_debtsOf_43 : decode cX3_debtsOf 43 = .ok (.iload_n 2, 1) := by decide +kernel
theorem dX3_debtsOf_44 : decode cX3_debtsOf 44 = .ok (.ireturn, 1) := by decide +kernel
theorem dX3_claimsOf_0 : decode cX3_claimsOf 0 = .ok (.iconst 0, 1) := by decide +kernel
theorem dX3_claimsOf_1 : decode cX3_claimsOf 1 = .ok (.istore_n 2, 1) := by decide +kernel
theorem dX3_claimsOf_2 : decode cX3_claimsOf 2 = .ok (.iconst 0, 1) := by decide +kernel
theorem dX3_claimsOf_3 : decode cX3_claimsOf 3 = .ok (.istore_n 3, 1) := by decide +kernel
theorem dX3_claimsOf_4 : decode cX3_claimsOf 4 = .ok (.iload_n 3, 1) := by decide +kernel
theorem dX3_claimsOf_5 : decode cX3_claimsOf 5 = .ok (.aload_n 0, 1) := by decide +kernel
theorem dX3_claimsOf_6 : decode cX3_claimsOf 6 = .ok (.getfield 40, 3) := by decide +kernel
theorem dX3_claimsOf_9 : decode cX3_claimsOf 9 = .ok (.if_icmp .ge 34, 3) := by decide +kernel
theorem dX3_claimsOf_12 : decode cX3_claimsOf 12 = .ok (.aload_n 0, 1) := by decide +kernel
theorem dX3_claimsOf_13 : decode cX3_claimsOf 13 = .ok (.getfield 20, 3) := by decide +kernel
theorem dX3_claimsOf_16 : decode cX3_claimsOf 16 = .ok (.iload_n 3, 1) := by decide +kernel
theorem dX3_claimsOf_17 : decode cX3_claimsOf 17 = .ok (.aaload, 1) := by decide +kernel
theorem dX3_claimsOf_18 : decode cX3_claimsOf 18 = .ok (.getfield 88, 3) := by decide +kernel
theorem dX3_claimsOf_21 : decode cX3_claimsOf 21 = .ok (.iload_n 1, 1) := by decide +kernel
theorem dX3_claimsOf_22 : decode cX3_claimsOf 22 = .ok (.if_icmp .ne 15, 3) := by decide +kernel
theorem dX3_claimsOf_25 : decode cX3_claimsOf 25 = .ok (.iload_n 2, 1) := by decide +kernel
theorem dX3_claimsOf_26 : decode cX3_claimsOf 26 = .ok (.aload_n 0, 1) := by decide +kernel
theorem dX3_claimsOf_27 : decode cX3_claimsOf 27 = .ok (.getfield 20, 3) := by decide +kernel
theorem dX3_claimsOf_30 : decode cX3_claimsOf 30 = .ok (.iload_n 3, 1) := by decide +kernel
theorem dX3_claimsOf_31 : decode cX3_claimsOf 31 = .ok (.aaload, 1) := by decide +kernel
theorem dX3_claimsOf_32 : decode cX3_claimsOf 32 = .ok (.getfield 94, 3) := by decide +kernel
theorem dX3_claimsOf_35 : decode cX3_claimsOf 35 = .ok (.iadd, 1) := by decide +kernel
theorem dX3_claimsOf_36 : decode cX3_claimsOf 36 = .ok (.istore_n 2, 1) := by decide +kernel
theorem dX3_claimsOf_37 : decode cX3_claimsOf 37 = .ok (.iinc 3 1, 3) := by decide +kernel
theorem dX3_claimsOf_40 : decode cX3_claimsOf 40 = .ok (.goto (-36), 3) := by decide +kernel
theorem dX3_claimsOf_43 : decode cX3_claimsOf 43 = .ok (.iload_n 2, 1) := by decide +kernel
theorem dX3_claimsOf_44 : decode cX3_claimsOf 44 = .ok (.ireturn, 1) := by decide +kernel
theorem dX3_hasSeen_0 : decode cX3_hasSeen 0 = .ok (.aload_n 0, 1) := by decide +kernel
theorem dX3_hasSeen_1 : decode cX3_hasSeen 1 = .ok (.getfield 64, 3) := by decide +kernel
theorem dX3_hasSeen_4 : decode cX3_hasSeen 4 = .ok (.iload_n 1, 1) := by decide +kernel
theorem dX3_hasSeen_5 : decode cX3_hasSeen 5 = .ok (.lushr, 1) := by decide +kernel
theorem dX3_hasSeen_6 : decode cX3_hasSeen 6 = .ok (.lconst 1, 1) := by decide +kernel
theorem dX3_hasSeen_7 : decode cX3_hasSeen 7 = .ok (.land, 1) := by decide +kernel
theorem dX3_hasSeen_8 : decode cX3_hasSeen 8 = .ok (.lconst 1, 1) := by decide +kernel
theorem dX3_hasSeen_9 : decode cX3_hasSeen 9 = .ok (.lcmp, 1) := by decide +kernel
theorem dX3_hasSeen_10 : decode cX3_hasSeen 10 = .ok (.ifCond .ne 7, 3) := by decide +kernel
theorem dX3_hasSeen_13 : decode cX3_hasSeen 13 = .ok (.iconst 1, 1) := by decide +kernel
theorem dX3_hasSeen_14 : decode cX3_hasSeen 14 = .ok (.goto 4, 3) := by decide +kernel
theorem dX3_hasSeen_17 : decode cX3_hasSeen 17 = .ok (.iconst 0, 1) := by decide +kernel
theorem dX3_hasSeen_18 : decode cX3_hasSeen 18 = .ok (.ireturn, 1) := by decide +kernel
theorem dX3_foretell_0 : decode cX3_foretell 0 = .ok (.iconst 0, 1) := by decide +kernel
theorem dX3_foretell_1 : decode cX3_foretell 1 = .ok (.istore_n 2, 1) := by decide +kernel
theorem dX3_foretell_2 : decode cX3_foretell 2 = .ok (.iconst 0, 1) := by decide +kernel
theorem dX3_foretell_3 : decode cX3_foretell 3 = .ok (.istore_n 3, 1) := by decide +kernel
theorem dX3_foretell_4 : decode cX3_foretell 4 = .ok (.iconst 0, 1) := by decide +kernel
theorem dX3_foretell_5 : decode cX3_foretell 5 = .ok (.istore 4, 2) := by decide +kernel
theorem dX3_foretell_7 : decode cX3_foretell 7 = .ok (.iload 4, 2) := by decide +kernel
theorem dX3_foretell_9 : decode cX3_foretell 9 = .ok (.aload_n 0, 1) := by decide +kernel
theorem dX3_foretell_10 : decode cX3_foretell 10 = .ok (.getfield 32, 3) := by decide +kernel
theorem dX3_foretell_13 : decode cX3_foretell 13 = .ok (.if_icmp .ge 110, 3) := by decide +kernel
theorem dX3_foretell_16 : decode cX3_foretell 16 = .ok (.aload_n 0, 1) := by decide +kernel
theorem dX3_foretell_17 : decode cX3_foretell 17 = .ok (.getfield 11, 3) := by decide +kernel
theorem dX3_foretell_20 : decode cX3_foretell 20 = .ok (.iload 4, 2) := by decide +kernel
theorem dX3_foretell_22 : decode cX3_foretell 22 = .ok (.aaload, 1) := by decide +kernel
theorem dX3_foretell_23 : decode cX3_foretell 23 = .ok (.astore 5, 2) := by decide +kernel
theorem dX3_foretell_25 : decode cX3_foretell 25 = .ok (.aload 5, 2) := by decide +kernel
theorem dX3_foretell_27 : decode cX3_foretell 27 = .ok (.aload 5, 2) := by decide +kernel
theorem dX3_foretell_29 : decode cX3_foretell 29 = .ok (.aload_n 0, 1) := by decide +kernel
theorem dX3_foretell_30 : decode cX3_foretell 30 = .ok (.getfield 25, 3) := by decide +kernel
theorem dX3_foretell_33 : decode cX3_foretell 33 = .ok (.iconst 0, 1) := by decide +kernel
theorem dX3_foretell_34 : decode cX3_foretell 34 = .ok (.iaload, 1) := by decide +kernel
theorem dX3_foretell_35 : decode cX3_foretell 35 = .ok (.iload_n 1, 1) := by decide +kernel
theorem dX3_foretell_36 : decode cX3_foretell 36 = .ok (.aload_n 0, 1) := by decide +kernel
theorem dX3_foretell_37 : decode cX3_foretell 37 = .ok (.getfield 55, 3) := by decide +kernel
theorem dX3_foretell_40 : decode cX3_foretell 40 = .ok (.invokevirtual 97, 3) := by decide +kernel
theorem dX3_foretell_43 : decode cX3_foretell 43 = .ok (.putfield 101, 3) := by decide +kernel
theorem dX3_foretell_46 : decode cX3_foretell 46 = .ok (.aload 5, 2) := by decide +kernel
theorem dX3_foretell_48 : decode cX3_foretell 48 = .ok (.getfield 104, 3) := by decide +kernel
theorem dX3_foretell_51 : decode cX3_foretell 51 = .ok (.iconst 4, 1) := by decide +kernel
theorem dX3_foretell_52 : decode cX3_foretell 52 = .ok (.if_icmp .ne 6, 3) := by decide +kernel
theorem dX3_foretell_55 : decode cX3_foretell 55 = .ok (.goto 62, 3) := by decide +kernel
theorem dX3_foretell_58 : decode cX3_foretell 58 = .ok (.aload 5, 2) := by decide +kernel
theorem dX3_foretell_60 : decode cX3_foretell 60 = .ok (.aload 5, 2) := by decide +kernel
theorem dX3_foretell_62 : decode cX3_foretell 62 = .ok (.iload_n 1, 1) := by decide +kernel
theorem dX3_foretell_63 : decode cX3_foretell 63 = .ok (.aload_n 0, 1) := by decide +kernel
theorem dX3_foretell_64 : decode cX3_foretell 64 = .ok (.getfield 55, 3) := by decide +kernel
theorem dX3_foretell_67 : decode cX3_foretell 67 = .ok (.invokevirtual 107, 3) := by decide +kernel
theorem dX3_foretell_70 : decode cX3_foretell 70 = .ok (.putfield 111, 3) := by decide +kernel
theorem dX3_foretell_73 : decode cX3_foretell 73 = .ok (.aload 5, 2) := by decide +kernel
theorem dX3_foretell_75 : decode cX3_foretell 75 = .ok (.invokevirtual 114, 3) := by decide +kernel
theorem dX3_foretell_78 : decode cX3_foretell 78 = .ok (.ifCond .eq 23, 3) := by decide +kernel
theorem dX3_foretell_81 : decode cX3_foretell 81 = .ok (.aload 5, 2) := by decide +kernel
theorem dX3_foretell_83 : decode cX3_foretell 83 = .ok (.getfield 111, 3) := by decide +kernel
theorem dX3_foretell_86 : decode cX3_foretell 86 = .ok (.iconst 1, 1) := by decide +kernel
theorem dX3_foretell_87 : decode cX3_foretell 87 = .ok (.if_icmp .ne 14, 3) := by decide +kernel
theorem dX3_foretell_90 : decode cX3_foretell 90 = .ok (.iload_n 2, 1) := by decide +kernel
theorem dX3_foretell_91 : decode cX3_foretell 91 = .ok (.aload 5, 2) := by decide +kernel
theorem dX3_foretell_93 : decode cX3_foretell 93 = .ok (.getfield 85, 3) := by decide +kernel
theorem dX3_foretell_96 : decode cX3_foretell 96 = .ok (.iadd, 1) := by decide +kernel
theorem dX3_foretell_97 : decode cX3_foretell 97 = .ok (.istore_n 2, 1) := by decide +kernel
theorem dX3_foretell_98 : decode cX3_foretell 98 = .ok (.goto 19, 3) := by decide +kernel
theorem dX3_foretell_101 : decode cX3_foretell 101 = .ok (.aload 5, 2) := by decide +kernel
theorem dX3_foretell_103 : decode cX3_foretell 103 = .ok (.invokevirtual 114, 3) := by decide +kernel
theorem dX3_foretell_106 : decode cX3_foretell 106 = .ok (.ifCond .eq 11, 3) := by decide +kernel
theorem dX3_foretell_109 : decode cX3_foretell 109 = .ok (.iload_n 3, 1) := by decide +kernel
theorem dX3_foretell_110 : decode cX3_foretell 110 = .ok (.aload 5, 2) := by decide +kernel
theorem dX3_foretell_112 : decode cX3_foretell 112 = .ok (.getfield 85, 3) := by decide +kernel
theorem dX3_foretell_115 : decode cX3_foretell 115 = .ok (.iadd, 1) := by decide +kernel
theorem dX3_foretell_116 : decode cX3_foretell 116 = .ok (.istore_n 3, 1) := by decide +kernel
theorem dX3_foretell_117 : decode cX3_foretell 117 = .ok (.iinc 4 1, 3) := by decide +kernel
theorem dX3_foretell_120 : decode cX3_foretell 120 = .ok (.goto (-113), 3) := by decide +kernel
theorem dX3_foretell_123 : decode cX3_foretell 123 = .ok (.iconst 0, 1) := by decide +kernel
theorem dX3_foretell_124 : decode cX3_foretell 124 = .ok (.istore 4, 2) := by decide +kernel
theorem dX3_foretell_126 : decode cX3_foretell 126 = .ok (.iload 4, 2) := by decide +kernel
theorem dX3_foretell_128 : decode cX3_foretell 128 = .ok (.aload_n 0, 1) := by decide +kernel
theorem dX3_foretell_129 : decode cX3_foretell 129 = .ok (.getfield 32, 3) := by decide +kernel
theorem dX3_foretell_132 : decode cX3_foretell 132 = .ok (.if_icmp .ge 43, 3) := by decide +kernel
theorem dX3_foretell_135 : decode cX3_foretell 135 = .ok (.aload_n 0, 1) := by decide +kernel
theorem dX3_foretell_136 : decode cX3_foretell 136 = .ok (.getfield 11, 3) := by decide +kernel
theorem dX3_foretell_139 : decode cX3_foretell 139 = .ok (.iload 4, 2) := by decide +kernel
theorem dX3_foretell_141 : decode cX3_foretell 141 = .ok (.aaload, 1) := by decide +kernel
theorem dX3_foretell_142 : decode cX3_foretell 142 = .ok (.getfield 104, 3) := by decide +kernel
theorem dX3_foretell_145 : decode cX3_foretell 145 = .ok (.iconst 4, 1) := by decide +kernel
theorem dX3_foretell_146 : decode cX3_foretell 146 = .ok (.if_icmp .ne 23, 3) := by decide +kernel
theorem dX3_foretell_149 : decode cX3_foretell 149 = .ok (.aload_n 0, 1) := by decide +kernel
theorem dX3_foretell_150 : decode cX3_foretell 150 = .ok (.getfield 11, 3) := by decide +kernel
theorem dX3_foretell_153 : decode cX3_foretell 153 = .ok (.iload 4, 2) := by decide +kernel
theorem dX3_foretell_155 : decode cX3_foretell 155 = .ok (.aaload, 1) := by decide +kernel
theorem dX3_foretell_156 : decode cX3_foretell 156 = .ok (.iload_n 3, 1) := by decide +kernel
theorem dX3_foretell_157 : decode cX3_foretell 157 = .ok (.iload_n 2, 1) := by decide +kernel
theorem dX3_foretell_158 : decode cX3_foretell 158 = .ok (.if_icmp .le 7, 3) := by decide +kernel
theorem dX3_foretell_161 : decode cX3_foretell 161 = .ok (.iconst 1, 1) := by decide +kernel
theorem dX3_foretell_162 : decode cX3_foretell 162 = .ok (.goto 4, 3) := by decide +kernel
theorem dX3_foretell_165 : decode cX3_foretell 165 = .ok (.iconst 0, 1) := by decide +kernel
theorem dX3_foretell_166 : decode cX3_foretell 166 = .ok (.putfield 111, 3) := by decide +kernel
theorem dX3_foretell_169 : decode cX3_foretell 169 = .ok (.iinc 4 1, 3) := by decide +kernel
theorem dX3_foretell_172 : decode cX3_foretell 172 = .ok (.goto (-46), 3) := by decide +kernel
theorem dX3_foretell_175 : decode cX3_foretell 175 = .ok (.return_, 1) := by decide +kernel
theorem dX3_stakesOn_0 : decode cX3_stakesOn 0 = .ok (.iconst 0, 1) := by decide +kernel
theorem dX3_stakesOn_1 : decode cX3_stakesOn 1 = .ok (.istore_n 2, 1) := by decide +kernel
theorem dX3_stakesOn_2 : decode cX3_stakesOn 2 = .ok (.iconst 0, 1) := by decide +kernel
theorem dX3_stakesOn_3 : decode cX3_stakesOn 3 = .ok (.istore_n 3, 1) := by decide +kernel
theorem dX3_stakesOn_4 : decode cX3_stakesOn 4 = .ok (.iload_n 3, 1) := by decide +kernel
theorem dX3_stakesOn_5 : decode cX3_stakesOn 5 = .ok (.aload_n 0, 1) := by decide +kernel
theorem dX3_stakesOn_6 : decode cX3_stakesOn 6 = .ok (.getfield 32, 3) := by decide +kernel
theorem dX3_stakesOn_9 : decode cX3_stakesOn 9 = .ok (.if_icmp .ge 34, 3) := by decide +kernel
theorem dX3_stakesOn_12 : decode cX3_stakesOn 12 = .ok (.aload_n 0, 1) := by decide +kernel
theorem dX3_stakesOn_13 : decode cX3_stakesOn 13 = .ok (.getfield 11, 3) := by decide +kernel
theorem dX3_stakesOn_16 : decode cX3_stakesOn 16 = .ok (.iload_n 3, 1) := by decide +kernel
theorem dX3_stakesOn_17 : decode cX3_stakesOn 17 = .ok (.aaload, 1) := by decide +kernel
theorem dX3_stakesOn_18 : decode cX3_stakesOn 18 = .ok (.getfield 111, 3) := by decide +kernel
theorem dX3_stakesOn_21 : decode cX3_stakesOn 21 = .ok (.iload_n 1, 1) := by decide +kernel
theorem dX3_stakesOn_22 : decode cX3_stakesOn 22 = .ok (.if_icmp .ne 15, 3) := by decide +kernel
theorem dX3_stakesOn_25 : decode cX3_stakesOn 25 = .ok (.iload_n 2, 1) := by decide +kernel
theorem dX3_stakesOn_26 : decode cX3_stakesOn 26 = .ok (.aload_n 0, 1) := by decide +kernel
theorem dX3_stakesOn_27 : decode cX3_stakesOn 27 = .ok (.getfield 11, 3) := by decide +kernel
theorem dX3_stakesOn_30 : decode cX3_stakesOn 30 = .ok (.iload_n 3, 1) := by decide +kernel
theorem dX3_stakesOn_31 : decode cX3_stakesOn 31 = .ok (.aaload, 1) := by decide +kernel
theorem dX3_stakesOn_32 : decode cX3_stakesOn 32 = .ok (.getfield 101, 3) := by decide +kernel
theorem dX3_stakesOn_35 : decode cX3_stakesOn 35 = .ok (.iadd, 1) := by decide +kernel
theorem dX3_stakesOn_36 : decode cX3_stakesOn 36 = .ok (.istore_n 2, 1) := by decide +kernel
theorem dX3_stakesOn_37 : decode cX3_stakesOn 37 = .ok (.iinc 3 1, 3) := by decide +kernel
theorem dX3_stakesOn_40 : decode cX3_stakesOn 40 = .ok (.goto (-36), 3) := by decide +kernel
theorem dX3_stakesOn_43 : decode cX3_stakesOn 43 = .ok (.iload_n 2, 1) := by decide +kernel
theorem dX3_stakesOn_44 : decode cX3_stakesOn 44 = .ok (.ireturn, 1) := by decide +kernel
theorem dX3_runBranch_0 : decode cX3_runBranch 0 = .ok (.aload_n 0, 1) := by decide +kernel
theorem dX3_runBranch_1 : decode cX3_runBranch 1 = .ok (.iload_n 1, 1) := by decide +kernel
theorem dX3_runBranch_2 : decode cX3_runBranch 2 = .ok (.invokevirtual 117, 3) := by decide +kernel
theorem dX3_runBranch_5 : decode cX3_runBranch 5 = .ok (.aload_n 0, 1) := by decide +kernel
theorem dX3_runBranch_6 : decode cX3_runBranch 6 = .ok (.iload_n 2, 1) := by decide +kernel
theorem dX3_runBranch_7 : decode cX3_runBranch 7 = .ok (.invokevirtual 121, 3) := by decide +kernel
theorem dX3_runBranch_10 : decode cX3_runBranch 10 = .ok (.istore_n 3, 1) := by decide +kernel
theorem dX3_runBranch_11 : decode cX3_runBranch 11 = .ok (.aload_n 0, 1) := by decide +kernel
theorem dX3_runBranch_12 : decode cX3_runBranch 12 = .ok (.iload_n 2, 1) := by decide +kernel
theorem dX3_runBranch_13 : decode cX3_runBranch 13 = .ok (.invokevirtual 125, 3) := by decide +kernel
theorem dX3_runBranch_16 : decode cX3_runBranch 16 = .ok (.aload_n 0, 1) := by decide +kernel
theorem dX3_runBranch_17 : decode cX3_runBranch 17 = .ok (.iload_n 1, 1) := by decide +kernel
theorem dX3_runBranch_18 : decode cX3_runBranch 18 = .ok (.iload_n 2, 1) := by decide +kernel
theorem dX3_runBranch_19 : decode cX3_runBranch 19 = .ok (.invokevirtual 128, 3) := by decide +kernel
theorem dX3_runBranch_22 : decode cX3_runBranch 22 = .ok (.iload_n 3, 1) := by decide +kernel
theorem dX3_runBranch_23 : decode cX3_runBranch 23 = .ok (.ireturn, 1) := by decide +kernel
theorem dX3_settleBets_0 : decode cX3_settleBets 0 = .ok (.aload_n 0, 1) := by decide +kernel
theorem dX3_settleBets_1 : decode cX3_settleBets 1 = .ok (.iconst 1, 1) := by decide +kernel
theorem dX3_settleBets_2 : decode cX3_settleBets 2 = .ok (.iload_n 1, 1) := by decide +kernel
theorem dX3_settleBets_3 : decode cX3_settleBets 3 = .ok (.isub, 1) := by decide +kernel
theorem dX3_settleBets_4 : decode cX3_settleBets 4 = .ok (.invokevirtual 132, 3) := by decide +kernel
theorem dX3_settleBets_7 : decode cX3_settleBets 7 = .ok (.istore_n 2, 1) := by decide +kernel
theorem dX3_settleBets_8 : decode cX3_settleBets 8 = .ok (.aload_n 0, 1) := by decide +kernel
theorem dX3_settleBets_9 : decode cX3_settleBets 9 = .ok (.iload_n 1, 1) := by decide +kernel
theorem dX3_settleBets_10 : decode cX3_settleBets 10 = .ok (.invokevirtual 132, 3) := by decide +kernel
theorem dX3_settleBets_13 : decode cX3_settleBets 13 = .ok (.istore_n 3, 1) := by decide +kernel
theorem dX3_settleBets_14 : decode cX3_settleBets 14 = .ok (.iload_n 2, 1) := by decide +kernel
theorem dX3_settleBets_15 : decode cX3_settleBets 15 = .ok (.ifCond .le 7, 3) := by decide +kernel
theorem dX3_settleBets_18 : decode cX3_settleBets 18 = .ok (.iload_n 3, 1) := by decide +kernel
theorem dX3_settleBets_19 : decode cX3_settleBets 19 = .ok (.ifCond .gt 5, 3) := by decide +kernel
theorem dX3_settleBets_22 : decode cX3_settleBets 22 = .ok (.iconst 0, 1) := by decide +kernel
theorem dX3_settleBets_23 : decode cX3_settleBets 23 = .ok (.ireturn, 1) := by decide +kernel
theorem dX3_settleBets_24 : decode cX3_settleBets 24 = .ok (.aload_n 0, 1) := by decide +kernel
theorem dX3_settleBets_25 : decode cX3_settleBets 25 = .ok (.dup, 1) := by decide +kernel
theorem dX3_settleBets_26 : decode cX3_settleBets 26 = .ok (.getfield 61, 3) := by decide +kernel
theorem dX3_settleBets_29 : decode cX3_settleBets 29 = .ok (.iconst 1, 1) := by decide +kernel
theorem dX3_settleBets_30 : decode cX3_settleBets 30 = .ok (.iadd, 1) := by decide +kernel
theorem dX3_settleBets_31 : decode cX3_settleBets 31 = .ok (.putfield 61, 3) := by decide +kernel
theorem dX3_settleBets_34 : decode cX3_settleBets 34 = .ok (.iload_n 2, 1) := by decide +kernel
theorem dX3_settleBets_35 : decode cX3_settleBets 35 = .ok (.iload_n 2, 1) := by decide +kernel
theorem dX3_settleBets_36 : decode cX3_settleBets 36 = .ok (.aload_n 0, 1) := by decide +kernel
theorem dX3_settleBets_37 : decode cX3_settleBets 37 = .ok (.getfield 25, 3) := by decide +kernel
theorem dX3_settleBets_40 : decode cX3_settleBets 40 = .ok (.iconst 1, 1) := by decide +kernel
theorem dX3_settleBets_41 : decode cX3_settleBets 41 = .ok (.iaload, 1) := by decide +kernel
theorem dX3_settleBets_42 : decode cX3_settleBets 42 = .ok (.imul, 1) := by decide +kernel
theorem dX3_settleBets_43 : decode cX3_settleBets 43 = .ok (.bipush 100, 2) := by decide +kernel
theorem dX3_settleBets_45 : decode cX3_settleBets 45 = .ok (.idiv, 1) := by decide +kernel
theorem dX3_settleBets_46 : decode cX3_settleBets 46 = .ok (.isub, 1) := by decide +kernel
theorem dX3_settleBets_47 : decode cX3_settleBets 47 = .ok (.istore 4, 2) := by decide +kernel
theorem dX3_settleBets_49 : decode cX3_settleBets 49 = .ok (.iconst 0, 1) := by decide +kernel
theorem dX3_settleBets_50 : decode cX3_settleBets 50 = .ok (.istore 5, 2) := by decide +kernel
theorem dX3_settleBets_52 : decode cX3_settleBets 52 = .ok (.iconst 0, 1) := by decide +kernel
theorem dX3_settleBets_53 : decode cX3_settleBets 53 = .ok (.istore 6, 2) := by decide +kernel
theorem dX3_settleBets_55 : decode cX3_settleBets 55 = .ok (.iload 6, 2) := by decide +kernel
theorem dX3_settleBets_57 : decode cX3_settleBets 57 = .ok (.aload_n 0, 1) := by decide +kernel
theorem dX3_settleBets_58 : decode cX3_settleBets 58 = .ok (.getfield 32, 3) := by decide +kernel
theorem dX3_settleBets_61 : decode cX3_settleBets 61 = .ok (.if_icmp .ge 84, 3) := by decide +kernel
theorem dX3_settleBets_64 : decode cX3_settleBets 64 = .ok (.aload_n 0, 1) := by decide +kernel
theorem dX3_settleBets_65 : decode cX3_settleBets 65 = .ok (.getfield 11, 3) := by decide +kernel
theorem dX3_settleBets_68 : decode cX3_settleBets 68 = .ok (.iload 6, 2) := by decide +kernel
theorem dX3_settleBets_70 : decode cX3_settleBets 70 = .ok (.aaload, 1) := by decide +kernel
theorem dX3_settleBets_71 : decode cX3_settleBets 71 = .ok (.astore 7, 2) := by decide +kernel
theorem dX3_settleBets_73 : decode cX3_settleBets 73 = .ok (.aload 7, 2) := by decide +kernel
theorem dX3_settleBets_75 : decode cX3_settleBets 75 = .ok (.getfield 111, 3) := by decide +kernel
theorem dX3_settleBets_78 : decode cX3_settleBets 78 = .ok (.iload_n 1, 1) := by decide +kernel
theorem dX3_settleBets_79 : decode cX3_settleBets 79 = .ok (.if_icmp .ne 45, 3) := by decide +kernel
theorem dX3_settleBets_82 : decode cX3_settleBets 82 = .ok (.iload 4, 2) := by decide +kernel
theorem dX3_settleBets_84 : decode cX3_settleBets 84 = .ok (.aload 7, 2) := by decide +kernel
theorem dX3_settleBets_86 : decode cX3_settleBets 86 = .ok (.getfield 101, 3) := by decide +kernel
theorem dX3_settleBets_89 : decode cX3_settleBets 89 = .ok (.imul, 1) := by decide +kernel
theorem dX3_settleBets_90 : decode cX3_settleBets 90 = .ok (.iload_n 3, 1) := by decide +kernel
theorem dX3_settleBets_91 : decode cX3_settleBets 91 = .ok (.idiv, 1) := by decide +kernel
theorem dX3_settleBets_92 : decode cX3_settleBets 92 = .ok (.istore 8, 2) := by decide +kernel
theorem dX3_settleBets_94 : decode cX3_settleBets 94 = .ok (.aload 7, 2) := by decide +kernel
theorem dX3_settleBets_96 : decode cX3_settleBets 96 = .ok (.dup, 1) := by decide +kernel
theorem dX3_settleBets_97 : decode cX3_settleBets 97 = .ok (.getfield 85, 3) := by decide +kernel
theorem dX3_settleBets_100 : decode cX3_settleBets 100 = .ok (.iload 8, 2) := by decide +kernel
theorem dX3_settleBets_102 : decode cX3_settleBets 102 = .ok (.iadd, 1) := by decide +kernel
theorem dX3_settleBets_103 : decode cX3_settleBets 103 = .ok (.putfield 85, 3) := by decide +kernel
theorem dX3_settleBets_106 : decode cX3_settleBets 106 = .ok (.iload 5, 2) := by decide +kernel
theorem dX3_settleBets_108 : decode cX3_settleBets 108 = .ok (.iload 8, 2) := by decide +kernel
theorem dX3_settleBets_110 : decode cX3_settleBets 110 = .ok (.iadd, 1) := by decide +kernel
theorem dX3_settleBets_111 : decode cX3_settleBets 111 = .ok (.istore 5, 2) := by decide +kernel
theorem dX3_settleBets_113 : decode cX3_settleBets 113 = .ok (.aload_n 0, 1) := by decide +kernel
theorem dX3_settleBets_114 : decode cX3_settleBets 114 = .ok (.iload 6, 2) := by decide +kernel
theorem dX3_settleBets_116 : decode cX3_settleBets 116 = .ok (.iload 8, 2) := by decide +kernel
theorem dX3_settleBets_118 : decode cX3_settleBets 118 = .ok (.invokevirtual 135, 3) := by decide +kernel
theorem dX3_settleBets_121 : decode cX3_settleBets 121 = .ok (.goto 18, 3) := by decide +kernel
theorem dX3_settleBets_124 : decode cX3_settleBets 124 = .ok (.aload 7, 2) := by decide +kernel
theorem dX3_settleBets_126 : decode cX3_settleBets 126 = .ok (.dup, 1) := by decide +kernel
theorem dX3_settleBets_127 : decode cX3_settleBets 127 = .ok (.getfield 85, 3) := by decide +kernel
theorem dX3_settleBets_130 : decode cX3_settleBets 130 = .ok (.aload 7, 2) := by decide +kernel
theorem dX3_settleBets_132 : decode cX3_settleBets 132 = .ok (.getfield 101, 3) := by decide +kernel
theorem dX3_settleBets_135 : decode cX3_settleBets 135 = .ok (.isub, 1) := by decide +kernel
theorem dX3_settleBets_136 : decode cX3_settleBets 136 = .ok (.putfield 85, 3) := by decide +kernel
theorem dX3_settleBets_139 : decode cX3_settleBets 139 = .ok (.iinc 6 1, 3) := by decide +kernel
theorem dX3_settleBets_142 : decode cX3_settleBets 142 = .ok (.goto (-87), 3) := by decide +kernel
theorem dX3_settleBets_145 : decode cX3_settleBets 145 = .ok (.aload_n 0, 1) := by decide +kernel
theorem dX3_settleBets_146 : decode cX3_settleBets 146 = .ok (.dup, 1) := by decide +kernel
theorem dX3_settleBets_147 : decode cX3_settleBets 147 = .ok (.getfield 52, 3) := by decide +kernel
theorem dX3_settleBets_150 : decode cX3_settleBets 150 = .ok (.iload_n 2, 1) := by decide +kernel
theorem dX3_settleBets_151 : decode cX3_settleBets 151 = .ok (.iload 5, 2) := by decide +kernel
theorem dX3_settleBets_153 : decode cX3_settleBets 153 = .ok (.isub, 1) := by decide +kernel
theorem dX3_settleBets_154 : decode cX3_settleBets 154 = .ok (.iadd, 1) := by decide +kernel
theorem dX3_settleBets_155 : decode cX3_settleBets 155 = .ok (.putfield 52, 3) := by decide +kernel
theorem dX3_settleBets_158 : decode cX3_settleBets 158 = .ok (.aload_n 0, 1) := by decide +kernel
theorem dX3_settleBets_159 : decode cX3_settleBets 159 = .ok (.invokevirtual 138, 3) := by decide +kernel
theorem dX3_settleBets_162 : decode cX3_settleBets 162 = .ok (.iload_n 2, 1) := by decide +kernel
theorem dX3_settleBets_163 : decode cX3_settleBets 163 = .ok (.ireturn, 1) := by decide +kernel
theorem dX3_payCreditors_0 : decode cX3_payCreditors 0 = .ok (.iload_n 2, 1) := by decide +kernel
theorem dX3_payCreditors_1 : decode cX3_payCreditors 1 = .ok (.aload_n 0, 1) := by decide +kernel
theorem dX3_payCreditors_2 : decode cX3_payCreditors 2 = .ok (.getfield 25, 3) := by decide +kernel
theorem dX3_payCreditors_5 : decode cX3_payCreditors 5 = .ok (.iconst 2, 1) := by decide +kernel
theorem dX3_payCreditors_6 : decode cX3_payCreditors 6 = .ok (.iaload, 1) := by decide +kernel
theorem dX3_payCreditors_7 : decode cX3_payCreditors 7 = .ok (.imul, 1) := by decide +kernel
theorem dX3_payCreditors_8 : decode cX3_payCreditors 8 = .ok (.bipush 100, 2) := by decide +kernel
theorem dX3_payCreditors_10 : decode cX3_payCreditors 10 = .ok (.idiv, 1) := by decide +kernel
theorem dX3_payCreditors_11 : decode cX3_payCreditors 11 = .ok (.istore_n 3, 1) := by decide +kernel
theorem dX3_payCreditors_12 : decode cX3_payCreditors 12 = .ok (.iconst 0, 1) := by decide +kernel
theorem dX3_payCreditors_13 : decode cX3_payCreditors 13 = .ok (.istore 4, 2) := by decide +kernel
theorem dX3_payCreditors_15 : decode cX3_payCreditors 15 = .ok (.iload 4, 2) := by decide +kernel
theorem dX3_payCreditors_17 : decode cX3_payCreditors 17 = .ok (.aload_n 0, 1) := by decide +kernel
theorem dX3_payCreditors_18 : decode cX3_payCreditors 18 = .ok (.getfield 40, 3) := by decide +kernel
theorem dX3_payCreditors_21 : decode cX3_payCreditors 21 = .ok (.if_icmp .ge 95, 3) := by decide +kernel
theorem dX3_payCreditors_24 : decode cX3_payCreditors 24 = .ok (.iload_n 3, 1) := by decide +kernel
theorem dX3_payCreditors_25 : decode cX3_payCreditors 25 = .ok (.ifCond .le 91, 3) := by decide +kernel
theorem dX3_payCreditors_28 : decode cX3_payCreditors 28 = .ok (.aload_n 0, 1) := by decide +kernel
theorem dX3_payCreditors_29 : decode cX3_payCreditors 29 = .ok (.getfield 20, 3) := by decide +kernel
theorem dX3_payCreditors_32 : decode cX3_payCreditors 32 = .ok (.iload 4, 2) := by decide +kernel
theorem dX3_payCreditors_34 : decode cX3_payCreditors 34 = .ok (.aaload, 1) := by decide +kernel
theorem dX3_payCreditors_35 : decode cX3_payCreditors 35 = .ok (.astore 5, 2) := by decide +kernel
theorem dX3_payCreditors_37 : decode cX3_payCreditors 37 = .ok (.aload 5, 2) := by decide +kernel
theorem dX3_payCreditors_39 : decode cX3_payCreditors 39 = .ok (.getfield 91, 3) := by decide +kernel
theorem dX3_payCreditors_42 : decode cX3_payCreditors 42 = .ok (.iload_n 1, 1) := by decide +kernel
theorem dX3_payCreditors_43 : decode cX3_payCreditors 43 = .ok (.if_icmp .ne 67, 3) := by decide +kernel
theorem dX3_payCreditors_46 : decode cX3_payCreditors 46 = .ok (.iload_n 3, 1) := by decide +kernel
theorem dX3_payCreditors_47 : decode cX3_payCreditors 47 = .ok (.aload 5, 2) := by decide +kernel
theorem dX3_payCreditors_49 : decode cX3_payCreditors 49 = .ok (.getfield 94, 3) := by decide +kernel
theorem dX3_payCreditors_52 : decode cX3_payCreditors 52 = .ok (.invokestatic 141, 3) := by decide +kernel
theorem dX3_payCreditors_55 : decode cX3_payCreditors 55 = .ok (.istore 6, 2) := by decide +kernel
theorem dX3_payCreditors_57 : decode cX3_payCreditors 57 = .ok (.iload_n 3, 1) := by decide +kernel
theorem dX3_payCreditors_58 : decode cX3_payCreditors 58 = .ok (.iload 6, 2) := by decide +kernel
theorem dX3_payCreditors_60 : decode cX3_payCreditors 60 = .ok (.isub, 1) := by decide +kernel
theorem dX3_payCreditors_61 : decode cX3_payCreditors 61 = .ok (.istore_n 3, 1) := by decide +kernel
theorem dX3_payCreditors_62 : decode cX3_payCreditors 62 = .ok (.aload 5, 2) := by decide +kernel
theorem dX3_payCreditors_64 : decode cX3_payCreditors 64 = .ok (.dup, 1) := by decide +kernel
theorem dX3_payCreditors_65 : decode cX3_payCreditors 65 = .ok (.getfield 94, 3) := by decide +kernel
theorem dX3_payCreditors_68 : decode cX3_payCreditors 68 = .ok (.iload 6, 2) := by decide +kernel
theorem dX3_payCreditors_70 : decode cX3_payCreditors 70 = .ok (.isub, 1) := by decide +kernel
theorem dX3_payCreditors_71 : decode cX3_payCreditors 71 = .ok (.putfield 94, 3) := by decide +kernel
theorem dX3_payCreditors_74 : decode cX3_payCreditors 74 = .ok (.aload_n 0, 1) := by decide +kernel
theorem dX3_payCreditors_75 : decode cX3_payCreditors 75 = .ok (.getfield 11, 3) := by decide +kernel
theorem dX3_payCreditors_78 : decode cX3_payCreditors 78 = .ok (.iload_n 1, 1) := by decide +kernel
theorem dX3_payCreditors_79 : decode cX3_payCreditors 79 = .ok (.aaload, 1) := by decide +kernel
theorem dX3_payCreditors_80 : decode cX3_payCreditors 80 = .ok (.dup, 1) := by decide +kernel
theorem dX3_payCreditors_81 : decode cX3_payCreditors 81 = .ok (.getfield 85, 3) := by decide +kernel
theorem dX3_payCreditors_84 : decode cX3_payCreditors 84 = .ok (.iload 6, 2) := by decide +kernel
theorem dX3_payCreditors_86 : decode cX3_payCreditors 86 = .ok (.isub, 1) := by decide +kernel
theorem dX3_payCreditors_87 : decode cX3_payCreditors 87 = .ok (.putfield 85, 3) := by decide +kernel
theorem dX3_payCreditors_90 : decode cX3_payCreditors 90 = .ok (.aload_n 0, 1) := by decide +kernel
theorem dX3_payCreditors_91 : decode cX3_payCreditors 91 = .ok (.getfield 11, 3) := by decide +kernel
theorem dX3_payCreditors_94 : decode cX3_payCreditors 94 = .ok (.aload 5, 2) := by decide +kernel
theorem dX3_payCreditors_96 : decode cX3_payCreditors 96 = .ok (.getfield 88, 3) := by decide +kernel
theorem dX3_payCreditors_99 : decode cX3_payCreditors 99 = .ok (.aaload, 1) := by decide +kernel
theorem dX3_payCreditors_100 : decode cX3_payCreditors 100 = .ok (.dup, 1) := by decide +kernel
theorem dX3_payCreditors_101 : decode cX3_payCreditors 101 = .ok (.getfield 85, 3) := by decide +kernel
theorem dX3_payCreditors_104 : decode cX3_payCreditors 104 = .ok (.iload 6, 2) := by decide +kernel
theorem dX3_payCreditors_106 : decode cX3_payCreditors 106 = .ok (.iadd, 1) := by decide +kernel
theorem dX3_payCreditors_107 : decode cX3_payCreditors 107 = .ok (.putfield 85, 3) := by decide +kernel
theorem dX3_payCreditors_110 : decode cX3_payCreditors 110 = .ok (.iinc 4 1, 3) := by decide +kernel
theorem dX3_payCreditors_113 : decode cX3_payCreditors 113 = .ok (.goto (-98), 3) := by decide +kernel
theorem dX3_payCreditors_116 : decode cX3_payCreditors 116 = .ok (.return_, 1) := by decide +kernel
theorem dX3_dropLoansPaidBack_0 : decode cX3_dropLoansPaidBack 0 = .ok (.iconst 0, 1) := by decide +kernel
theorem dX3_dropLoansPaidBack_1 : decode cX3_dropLoansPaidBack 1 = .ok (.istore_n 1, 1) := by decide +kernel
theorem dX3_dropLoansPaidBack_2 : decode cX3_dropLoansPaidBack 2 = .ok (.iconst 0, 1) := by decide +kernel
theorem dX3_dropLoansPaidBack_3 : decode cX3_dropLoansPaidBack 3 = .ok (.istore_n 2, 1) := by decide +kernel
theorem dX3_dropLoansPaidBack_4 : decode cX3_dropLoansPaidBack 4 = .ok (.iload_n 2, 1) := by decide +kernel
theorem dX3_dropLoansPaidBack_5 : decode cX3_dropLoansPaidBack 5 = .ok (.aload_n 0, 1) := by decide +kernel
theorem dX3_dropLoansPaidBack_6 : decode cX3_dropLoansPaidBack 6 = .ok (.getfield 40, 3) := by decide +kernel
theorem dX3_dropLoansPaidBack_9 : decode cX3_dropLoansPaidBack 9 = .ok (.if_icmp .ge 39, 3) := by decide +kernel
theorem dX3_dropLoansPaidBack_12 : decode cX3_dropLoansPaidBack 12 = .ok (.aload_n 0, 1) := by decide +kernel
theorem dX3_dropLoansPaidBack_13 : decode cX3_dropLoansPaidBack 13 = .ok (.getfield 20, 3) := by decide +kernel
theorem dX3_dropLoansPaidBack_16 : decode cX3_dropLoansPaidBack 16 = .ok (.iload_n 2, 1) := by decide +kernel
theorem dX3_dropLoansPaidBack_17 : decode cX3_dropLoansPaidBack 17 = .ok (.aaload, 1) := by decide +kernel
theorem dX3_dropLoansPaidBack_18 : decode cX3_dropLoansPaidBack 18 = .ok (.getfield 94, 3) := by decide +kernel
theorem dX3_dropLoansPaidBack_21 : decode cX3_dropLoansPaidBack 21 = .ok (.ifCond .le 21, 3) := by decide +kernel
theorem dX3_dropLoansPaidBack_24 : decode cX3_dropLoansPaidBack 24 = .ok (.aload_n 0, 1) := by decide +kernel
theorem dX3_dropLoansPaidBack_25 : decode cX3_dropLoansPaidBack 25 = .ok (.getfield 20, 3) := by decide +kernel
theorem dX3_dropLoansPaidBack_28 : decode cX3_dropLoansPaidBack 28 = .ok (.iload_n 1, 1) := by decide +kernel
theorem dX3_dropLoansPaidBack_29 : decode cX3_dropLoansPaidBack 29 = .ok (.aaload, 1) := by decide +kernel
theorem dX3_dropLoansPaidBack_30 : decode cX3_dropLoansPaidBack 30 = .ok (.aload_n 0, 1) := by decide +kernel
theorem dX3_dropLoansPaidBack_31 : decode cX3_dropLoansPaidBack 31 = .ok (.getfield 20, 3) := by decide +kernel
theorem dX3_dropLoansPaidBack_34 : decode cX3_dropLoansPaidBack 34 = .ok (.iload_n 2, 1) := by decide +kernel
theorem dX3_dropLoansPaidBack_35 : decode cX3_dropLoansPaidBack 35 = .ok (.aaload, 1) := by decide +kernel
theorem dX3_dropLoansPaidBack_36 : decode cX3_dropLoansPaidBack 36 = .ok (.invokevirtual 43, 3) := by decide +kernel
theorem dX3_dropLoansPaidBack_39 : decode cX3_dropLoansPaidBack 39 = .ok (.iinc 1 1, 3) := by decide +kernel
theorem dX3_dropLoansPaidBack_42 : decode cX3_dropLoansPaidBack 42 = .ok (.iinc 2 1, 3) := by decide +kernel
theorem dX3_dropLoansPaidBack_45 : decode cX3_dropLoansPaidBack 45 = .ok (.goto (-41), 3) := by decide +kernel
theorem dX3_dropLoansPaidBack_48 : decode cX3_dropLoansPaidBack 48 = .ok (.aload_n 0, 1) := by decide +kernel
theorem dX3_dropLoansPaidBack_49 : decode cX3_dropLoansPaidBack 49 = .ok (.iload_n 1, 1) := by decide +kernel
theorem dX3_dropLoansPaidBack_50 : decode cX3_dropLoansPaidBack 50 = .ok (.putfield 40, 3) := by decide +kernel
theorem dX3_dropLoansPaidBack_53 : decode cX3_dropLoansPaidBack 53 = .ok (.return_, 1) := by decide +kernel
theorem dX3_keepRecords_0 : decode cX3_keepRecords 0 = .ok (.iconst 0, 1) := by decide +kernel
theorem dX3_keepRecords_1 : decode cX3_keepRecords 1 = .ok (.istore_n 2, 1) := by decide +kernel
theorem dX3_keepRecords_2 : decode cX3_keepRecords 2 = .ok (.iload_n 2, 1) := by decide +kernel
theorem dX3_keepRecords_3 : decode cX3_keepRecords 3 = .ok (.aload_n 0, 1) := by decide +kernel
theorem dX3_keepRecords_4 : decode cX3_keepRecords 4 = .ok (.getfield 32, 3) := by decide +kernel
theorem dX3_keepRecords_7 : decode cX3_keepRecords 7 = .ok (.if_icmp .ge 48, 3) := by decide +kernel
theorem dX3_keepRecords_10 : decode cX3_keepRecords 10 = .ok (.aload_n 0, 1) := by decide +kernel
theorem dX3_keepRecords_11 : decode cX3_keepRecords 11 = .ok (.getfield 11, 3) := by decide +kernel
theorem dX3_keepRecords_14 : decode cX3_keepRecords 14 = .ok (.iload_n 2, 1) := by decide +kernel
theorem dX3_keepRecords_15 : decode cX3_keepRecords 15 = .ok (.aaload, 1) := by decide +kernel
theorem dX3_keepRecords_16 : decode cX3_keepRecords 16 = .ok (.getfield 101, 3) := by decide +kernel
theorem dX3_keepRecords_19 : decode cX3_keepRecords 19 = .ok (.ifCond .le 30, 3) := by decide +kernel
theorem dX3_keepRecords_22 : decode cX3_keepRecords 22 = .ok (.aload_n 0, 1) := by decide +kernel
theorem dX3_keepRecords_23 : decode cX3_keepRecords 23 = .ok (.getfield 11, 3) := by decide +kernel
theorem dX3_keepRecords_26 : decode cX3_keepRecords 26 = .ok (.iload_n 2, 1) := by decide +kernel
theorem dX3_keepRecords_27 : decode cX3_keepRecords 27 = .ok (.aaload, 1) := by decide +kernel
theorem dX3_keepRecords_28 : decode cX3_keepRecords 28 = .ok (.aload_n 0, 1) := by decide +kernel
theorem dX3_keepRecords_29 : decode cX3_keepRecords 29 = .ok (.getfield 11, 3) := by decide +kernel
theorem dX3_keepRecords_32 : decode cX3_keepRecords 32 = .ok (.iload_n 2, 1) := by decide +kernel
theorem dX3_keepRecords_33 : decode cX3_keepRecords 33 = .ok (.aaload, 1) := by decide +kernel
theorem dX3_keepRecords_34 : decode cX3_keepRecords 34 = .ok (.getfield 111, 3) := by decide +kernel
theorem dX3_keepRecords_37 : decode cX3_keepRecords 37 = .ok (.iload_n 1, 1) := by decide +kernel
theorem dX3_keepRecords_38 : decode cX3_keepRecords 38 = .ok (.if_icmp .ne 7, 3) := by decide +kernel
theorem dX3_keepRecords_41 : decode cX3_keepRecords 41 = .ok (.iconst 1, 1) := by decide +kernel
theorem dX3_keepRecords_42 : decode cX3_keepRecords 42 = .ok (.goto 4, 3) := by decide +kernel
theorem dX3_keepRecords_45 : decode cX3_keepRecords 45 = .ok (.iconst 0, 1) := by decide +kernel
theorem dX3_keepRecords_46 : decode cX3_keepRecords 46 = .ok (.invokevirtual 146, 3) := by decide +kernel
theorem dX3_keepRecords_49 : decode cX3_keepRecords 49 = .ok (.iinc 2 1, 3) := by decide +kernel
theorem dX3_keepRecords_52 : decode cX3_keepRecords 52 = .ok (.goto (-50), 3) := by decide +kernel
theorem dX3_keepRecords_55 : decode cX3_keepRecords 55 = .ok (.return_, 1) := by decide +kernel
theorem dX3_learnFrom_0 : decode cX3_learnFrom 0 = .ok (.iconst 0, 1) := by decide +kernel
theorem dX3_learnFrom_1 : decode cX3_learnFrom 1 = .ok (.istore_n 3, 1) := by decide +kernel
theorem dX3_learnFrom_2 : decode cX3_learnFrom 2 = .ok (.iload_n 3, 1) := by decide +kernel
theorem dX3_learnFrom_3 : decode cX3_learnFrom 3 = .ok (.aload_n 0, 1) := by decide +kernel
theorem dX3_learnFrom_4 : decode cX3_learnFrom 4 = .ok (.getfield 32, 3) := by decide +kernel
theorem dX3_learnFrom_7 : decode cX3_learnFrom 7 = .ok (.if_icmp .ge 36, 3) := by decide +kernel
theorem dX3_learnFrom_10 : decode cX3_learnFrom 10 = .ok (.aload_n 0, 1) := by decide +kernel
theorem dX3_learnFrom_11 : decode cX3_learnFrom 11 = .ok (.getfield 11, 3) := by decide +kernel
theorem dX3_learnFrom_14 : decode cX3_learnFrom 14 = .ok (.iload_n 3, 1) := by decide +kernel
theorem dX3_learnFrom_15 : decode cX3_learnFrom 15 = .ok (.aaload, 1) := by decide +kernel
theorem dX3_learnFrom_16 : decode cX3_learnFrom 16 = .ok (.invokevirtual 150, 3) := by decide +kernel
theorem dX3_learnFrom_19 : decode cX3_learnFrom 19 = .ok (.ifCond .eq 18, 3) := by decide +kernel
theorem dX3_learnFrom_22 : decode cX3_learnFrom 22 = .ok (.aload_n 0, 1) := by decide +kernel
theorem dX3_learnFrom_23 : decode cX3_learnFrom 23 = .ok (.getfield 11, 3) := by decide +kernel
theorem dX3_learnFrom_26 : decode cX3_learnFrom 26 = .ok (.iload_n 3, 1) := by decide +kernel
theorem dX3_learnFrom_27 : decode cX3_learnFrom 27 = .ok (.aaload, 1) := by decide +kernel
theorem dX3_learnFrom_28 : decode cX3_learnFrom 28 = .ok (.iload_n 1, 1) := by decide +kernel
theorem dX3_learnFrom_29 : decode cX3_learnFrom 29 = .ok (.iload_n 2, 1) := by decide +kernel
theorem dX3_learnFrom_30 : decode cX3_learnFrom 30 = .ok (.aload_n 0, 1) := by decide +kernel
theorem dX3_learnFrom_31 : decode cX3_learnFrom 31 = .ok (.getfield 55, 3) := by decide +kernel
theorem dX3_learnFrom_34 : decode cX3_learnFrom 34 = .ok (.invokevirtual 153, 3) := by decide +kernel
theorem dX3_learnFrom_37 : decode cX3_learnFrom 37 = .ok (.iinc 3 1, 3) := by decide +kernel
theorem dX3_learnFrom_40 : decode cX3_learnFrom 40 = .ok (.goto (-38), 3) := by decide +kernel
theorem dX3_learnFrom_43 : decode cX3_learnFrom 43 = .ok (.aload_n 0, 1) := by decide +kernel
theorem dX3_learnFrom_44 : decode cX3_learnFrom 44 = .ok (.iconst 2, 1) := by decide +kernel
theorem dX3_learnFrom_45 : decode cX3_learnFrom 45 = .ok (.aload_n 0, 1) := by decide +kernel
theorem dX3_learnFrom_46 : decode cX3_learnFrom 46 = .ok (.getfield 55, 3) := by decide +kernel
theorem dX3_learnFrom_49 : decode cX3_learnFrom 49 = .ok (.imul, 1) := by decide +kernel
theorem dX3_learnFrom_50 : decode cX3_learnFrom 50 = .ok (.iload_n 2, 1) := by decide +kernel
theorem dX3_learnFrom_51 : decode cX3_learnFrom 51 = .ok (.iadd, 1) := by decide +kernel
theorem dX3_learnFrom_52 : decode cX3_learnFrom 52 = .ok (.sipush 255, 3) := by decide +kernel
theorem dX3_learnFrom_55 : decode cX3_learnFrom 55 = .ok (.iand, 1) := by decide +kernel
theorem dX3_learnFrom_56 : decode cX3_learnFrom 56 = .ok (.putfield 55, 3) := by decide +kernel
theorem dX3_learnFrom_59 : decode cX3_learnFrom 59 = .ok (.aload_n 0, 1) := by decide +kernel
theorem dX3_learnFrom_60 : decode cX3_learnFrom 60 = .ok (.dup, 1) := by decide +kernel
theorem dX3_learnFrom_61 : decode cX3_learnFrom 61 = .ok (.getfield 58, 3) := by decide +kernel
theorem dX3_learnFrom_64 : decode cX3_learnFrom 64 = .ok (.iconst 1, 1) := by decide +kernel
theorem dX3_learnFrom_65 : decode cX3_learnFrom 65 = .ok (.iadd, 1) := by decide +kernel
theorem dX3_learnFrom_66 : decode cX3_learnFrom 66 = .ok (.putfield 58, 3) := by decide +kernel
theorem dX3_learnFrom_69 : decode cX3_learnFrom 69 = .ok (.aload_n 0, 1) := by decide +kernel
theorem dX3_learnFrom_70 : decode cX3_learnFrom 70 = .ok (.dup, 1) := by decide +kernel
theorem dX3_learnFrom_71 : decode cX3_learnFrom 71 = .ok (.getfield 64, 3) := by decide +kernel
theorem dX3_learnFrom_74 : decode cX3_learnFrom 74 = .ok (.lconst 1, 1) := by decide +kernel
theorem dX3_learnFrom_75 : decode cX3_learnFrom 75 = .ok (.iload_n 1, 1) := by decide +kernel
theorem dX3_learnFrom_76 : decode cX3_learnFrom 76 = .ok (.lshl, 1) := by decide +kernel
theorem dX3_learnFrom_77 : decode cX3_learnFrom 77 = .ok (.lor, 1) := by decide +kernel
theorem dX3_learnFrom_78 : decode cX3_learnFrom 78 = .ok (.putfield 64, 3) := by decide +kernel
theorem dX3_learnFrom_81 : decode cX3_learnFrom 81 = .ok (.return_, 1) := by decide +kernel
theorem dX4_init_0 : decode cX4_init 0 = .ok (.aload_n 0, 1) := by decide +kernel
theorem dX4_init_1 : decode cX4_init 1 = .ok (.invokespecial 3, 3) := by decide +kernel
theorem dX4_init_4 : decode cX4_init 4 = .ok (.aload_n 0, 1) := by decide +kernel
theorem dX4_init_5 : decode cX4_init 5 = .ok (.bipush 80, 2) := by decide +kernel
theorem dX4_init_7 : decode cX4_init 7 = .ok (.newarray .char, 2) := by decide +kernel
theorem dX4_init_9 : decode cX4_init 9 = .ok (.putfield 9, 3) := by decide +kernel
theorem dX4_init_12 : decode cX4_init 12 = .ok (.aload_n 0, 1) := by decide +kernel
theorem dX4_init_13 : decode cX4_init 13 = .ok (.iconst 2, 1) := by decide +kernel
theorem dX4_init_14 : decode cX4_init 14 = .ok (.newarray .int, 2) := by decide +kernel
theorem dX4_init_16 : decode cX4_init 16 = .ok (.putfield 15, 3) := by decide +kernel
theorem dX4_init_19 : decode cX4_init 19 = .ok (.return_, 1) := by decide +kernel
theorem dX4_append_0 : decode cX4_append 0 = .ok (.aload_n 0, 1) := by decide +kernel
theorem dX4_append_1 : decode cX4_append 1 = .ok (.getfield 9, 3) := by decide +kernel
theorem dX4_append_4 : decode cX4_append 4 = .ok (.aload_n 0, 1) := by decide +kernel
theorem dX4_append_5 : decode cX4_append 5 = .ok (.getfield 19, 3) := by decide +kernel
theorem dX4_append_8 : decode cX4_append 8 = .ok (.iload_n 1, 1) := by decide +kernel
theorem dX4_append_9 : decode cX4_append 9 = .ok (.castore, 1) := by decide +kernel
theorem dX4_append_10 : decode cX4_append 10 = .ok (.aload_n 0, 1) := by decide +kernel
theorem dX4_append_11 : decode cX4_append 11 = .ok (.dup, 1) := by decide +kernel
theorem dX4_append_12 : decode cX4_append 12 = .ok (.getfield 19, 3) := by decide +kernel
theorem dX4_append_15 : decode cX4_append 15 = .ok (.iconst 1, 1) := by decide +kernel
theorem dX4_append_16 : decode cX4_append 16 = .ok (.iadd, 1) := by decide +kernel
theorem dX4_append_17 : decode cX4_append 17 = .ok (.putfield 19, 3) := by decide +kernel
theorem dX4_append_20 : decode cX4_append 20 = .ok (.return_, 1) := by decide +kernel
theorem dX4_hasFault_0 : decode cX4_hasFault 0 = .ok (.iconst 0, 1) := by decide +kernel
theorem dX4_hasFault_1 : decode cX4_hasFault 1 = .ok (.istore_n 1, 1) := by decide +kernel
theorem dX4_hasFault_2 : decode cX4_hasFault 2 = .ok (.iconst 0, 1) := by decide +kernel
theorem dX4_hasFault_3 : decode cX4_hasFault 3 = .ok (.istore_n 2, 1) := by decide +kernel
theorem dX4_hasFault_4 : decode cX4_hasFault 4 = .ok (.iload_n 2, 1) := by decide +kernel
theorem dX4_hasFault_5 : decode cX4_hasFault 5 = .ok (.bipush 80, 2) := by decide +kernel
theorem dX4_hasFault_7 : decode cX4_hasFault 7 = .ok (.if_icmp .ge 36, 3) := by decide +kernel
theorem dX4_hasFault_10 : decode cX4_hasFault 10 = .ok (.iload_n 1, 1) := by decide +kernel
theorem dX4_hasFault_11 : decode cX4_hasFault 11 = .ok (.aload_n 0, 1) := by decide +kernel
theorem dX4_hasFault_12 : decode cX4_hasFault 12 = .ok (.getfield 19, 3) := by decide +kernel
theorem dX4_hasFault_15 : decode cX4_hasFault 15 = .ok (.if_icmp .ge 28, 3) := by decide +kernel
theorem dX4_hasFault_18 : decode cX4_hasFault 18 = .ok (.aload_n 0, 1) := by decide +kernel
theorem dX4_hasFault_19 : decode cX4_hasFault 19 = .ok (.iload_n 1, 1) := by decide +kernel
theorem dX4_hasFault_20 : decode cX4_hasFault 20 = .ok (.invokevirtual 23, 3) := by decide +kernel
theorem dX4_hasFault_23 : decode cX4_hasFault 23 = .ok (.aload_n 0, 1) := by decide +kernel
theorem dX4_hasFault_24 : decode cX4_hasFault 24 = .ok (.getfield 27, 3) := by decide +kernel
theorem dX4_hasFault_27 : decode cX4_hasFault 27 = .ok (.ifCond .eq 5, 3) := by decide +kernel
theorem dX4_hasFault_30 : decode cX4_hasFault 30 = .ok (.iconst 1, 1) := by decide +kernel
theorem dX4_hasFault_31 : decode cX4_hasFault 31 = .ok (.ireturn, 1) := by decide +kernel
theorem dX4_hasFault_32 : decode cX4_hasFault 32 = .ok (.aload_n 0, 1) := by decide +kernel
theorem dX4_hasFault_33 : decode cX4_hasFault 33 = .ok (.getfield 30, 3) := by decide +kernel
theorem dX4_hasFault_36 : decode cX4_hasFault 36 = .ok (.istore_n 1, 1) := by decide +kernel
theorem dX4_hasFault_37 : decode cX4_hasFault 37 = .ok (.iinc 2 1, 3) := by decide +kernel
theorem dX4_hasFault_40 : decode cX4_hasFault 40 = .ok (.goto (-36), 3) := by decide +kernel
theorem dX4_hasFault_43 : decode cX4_hasFault 43 = .ok (.iconst 0, 1) := by decide +kernel
theorem dX4_hasFault_44 : decode cX4_hasFault 44 = .ok (.ireturn, 1) := by decide +kernel
theorem dX4_readOrder_0 : decode cX4_readOrder 0 = .ok (.aload_n 0, 1) := by decide +kernel
theorem dX4_readOrder_1 : decode cX4_readOrder 1 = .ok (.iload_n 1, 1) := by decide +kernel
theorem dX4_readOrder_2 : decode cX4_readOrder 2 = .ok (.putfield 33, 3) := by decide +kernel
theorem dX4_readOrder_5 : decode cX4_readOrder 5 = .ok (.aload_n 0, 1) := by decide +kernel
theorem dX4_readOrder_6 : decode cX4_readOrder 6 = .ok (.iconst 0, 1) := by decide +kernel
theorem dX4_readOrder_7 : decode cX4_readOrder 7 = .ok (.putfield 27, 3) := by decide +kernel
theorem dX4_readOrder_10 : decode cX4_readOrder 10 = .ok (.aload_n 0, 1) := by decide +kernel
theorem dX4_readOrder_11 : decode cX4_readOrder 11 = .ok (.iconst 0, 1) := by decide +kernel
theorem dX4_readOrder_12 : decode cX4_readOrder 12 = .ok (.putfield 36, 3) := by decide +kernel
theorem dX4_readOrder_15 : decode cX4_readOrder 15 = .ok (.aload_n 0, 1) := by decide +kernel
theorem dX4_readOrder_16 : decode cX4_readOrder 16 = .ok (.aload_n 0, 1) := by decide +kernel
theorem dX4_readOrder_17 : decode cX4_readOrder 17 = .ok (.iload_n 1, 1) := by decide +kernel
theorem dX4_readOrder_18 : decode cX4_readOrder 18 = .ok (.invokevirtual 39, 3) := by decide +kernel
theorem dX4_readOrder_21 : decode cX4_readOrder 21 = .ok (.putfield 30, 3) := by decide +kernel
theorem dX4_readOrder_24 : decode cX4_readOrder 24 = .ok (.aload_n 0, 1) := by decide +kernel
theorem dX4_readOrder_25 : decode cX4_readOrder 25 = .ok (.aload_n 0, 1) := by decide +kernel
theorem dX4_readOrder_26 : decode cX4_readOrder 26 = .ok (.aload_n 0, 1) := by decide +kernel
theorem dX4_readOrder_27 : decode cX4_readOrder 27 = .ok (.getfield 30, 3) := by decide +kernel
theorem dX4_readOrder_30 : decode cX4_readOrder 30 = .ok (.invokevirtual 43, 3) := by decide +kernel
theorem dX4_readOrder_33 : decode cX4_readOrder 33 = .ok (.putfield 46, 3) := by decide +kernel
theorem dX4_readOrder_36 : decode cX4_readOrder 36 = .ok (.aload_n 0, 1) := by decide +kernel
theorem dX4_readOrder_37 : decode cX4_readOrder 37 = .ok (.getfield 46, 3) := by decide +kernel
theorem dX4_readOrder_40 : decode cX4_readOrder 40 = .ok (.iconst (-1), 1) := by decide +kernel
theorem dX4_readOrder_41 : decode cX4_readOrder 41 = .ok (.if_icmp .ne 14, 3) := by decide +kernel
theorem dX4_readOrder_44 : decode cX4_readOrder 44 = .ok (.aload_n 0, 1) := by decide +kernel
theorem dX4_readOrder_45 : decode cX4_readOrder 45 = .ok (.iload_n 1, 1) := by decide +kernel
theorem dX4_readOrder_46 : decode cX4_readOrder 46 = .ok (.putfield 30, 3) := by decide +kernel
theorem dX4_readOrder_49 : decode cX4_readOrder 49 = .ok (.aload_n 0, 1) := by decide +kernel
theorem dX4_readOrder_50 : decode cX4_readOrder 50 = .ok (.iconst 1, 1) := by decide +kernel
theorem dX4_readOrder_51 : decode cX4_readOrder 51 = .ok (.putfield 27, 3) := by decide +kernel
theorem dX4_readOrder_54 : decode cX4_readOrder 54 = .ok (.return_, 1) := by decide +kernel
theorem dX4_readOrder_55 : decode cX4_readOrder 55 = .ok (.aload_n 0, 1) := by decide +kernel
theorem dX4_readOrder_56 : decode cX4_readOrder 56 = .ok (.getfield 46, 3) := by decide +kernel
theorem dX4_readOrder_59 : decode cX4_readOrder 59 = .ok (.iconst 4, 1) := by decide +kernel
theorem dX4_readOrder_60 : decode cX4_readOrder 60 = .ok (.if_icmp .ne 7, 3) := by decide +kernel
theorem dX4_readOrder_63 : decode cX4_readOrder 63 = .ok (.iconst 1, 1) := by decide +kernel
theorem dX4_readOrder_64 : decode cX4_readOrder 64 = .ok (.goto 4, 3) := by decide +kernel
theorem dX4_readOrder_67 : decode cX4_readOrder 67 = .ok (.iconst 2, 1) := by decide +kernel
theorem dX4_readOrder_68 : decode cX4_readOrder 68 = .ok (.istore_n 2, 1) := by decide +kernel
theorem dX4_readOrder_69 : decode cX4_readOrder 69 = .ok (.iconst 1, 1) := by decide +kernel
theorem dX4_readOrder_70 : decode cX4_readOrder 70 = .ok (.istore_n 3, 1) := by decide +kernel
theorem dX4_readOrder_71 : decode cX4_readOrder 71 = .ok (.iconst 0, 1) := by decide +kernel
theorem dX4_readOrder_72 : decode cX4_readOrder 72 = .ok (.istore 4, 2) := by decide +kernel
theorem dX4_readOrder_74 : decode cX4_readOrder 74 = .ok (.iload 4, 2) := by decide +kernel
theorem dX4_readOrder_76 : decode cX4_readOrder 76 = .ok (.iload_n 2, 1) := by decide +kernel
theorem dX4_readOrder_77 : decode cX4_readOrder 77 = .ok (.if_icmp .ge 20, 3) := by decide +kernel
theorem dX4_readOrder_80 : decode cX4_readOrder 80 = .ok (.iload_n 3, 1) := by decide +kernel
theorem dX4_readOrder_81 : decode cX4_readOrder 81 = .ok (.ifCond .eq 16, 3) := by decide +kernel
theorem dX4_readOrder_84 : decode cX4_readOrder 84 = .ok (.aload_n 0, 1) := by decide +kernel
theorem dX4_readOrder_85 : decode cX4_readOrder 85 = .ok (.iload 4, 2) := by decide +kernel
theorem dX4_readOrder_87 : decode cX4_readOrder 87 = .ok (.invokevirtual 49, 3) := by decide +kernel
theorem dX4_readOrder_90 : decode cX4_readOrder 90 = .ok (.istore_n 3, 1) := by decide +kernel
theorem dX4_readOrder_91 : decode cX4_readOrder 91 = .ok (.iinc 4 1, 3) := by decide +kernel
theorem dX4_readOrder_94 : decode cX4_readOrder 94 = .ok (.goto (-20), 3) := by decide +kernel
theorem dX4_readOrder_97 : decode cX4_readOrder 97 = .ok (.iload_n 3, 1) := by decide +kernel
theorem dX4_readOrder_98 : decode cX4_readOrder 98 = .ok (.ifCond .eq 16, 3) := by decide +kernel
theorem dX4_readOrder_101 : decode cX4_readOrder 101 = .ok (.aload_n 0, 1) := by decide +kernel
theorem dX4_readOrder_102 : decode cX4_readOrder 102 = .ok (.aload_n 0, 1) := by decide +kernel
theorem dX4_readOrder_103 : decode cX4_readOrder 103 = .ok (.getfield 30, 3) := by decide +kernel
theorem dX4_readOrder_106 : decode cX4_readOrder 106 = .ok (.invokevirtual 53, 3) := by decide +kernel
theorem dX4_readOrder_109 : decode cX4_readOrder 109 = .ok (.bipush 59, 2) := by decide +kernel
theorem dX4_readOrder_111 : decode cX4_readOrder 111 = .ok (.if_icmp .eq 22, 3) := by decide +kernel
theorem dX4_readOrder_114 : decode cX4_readOrder 114 = .ok (.aload_n 0, 1) := by decide +kernel
theorem dX4_readOrder_115 : decode cX4_readOrder 115 = .ok (.iconst 1, 1) := by decide +kernel
theorem dX4_readOrder_116 : decode cX4_readOrder 116 = .ok (.putfield 27, 3) := by decide +kernel
theorem dX4_readOrder_119 : decode cX4_readOrder 119 = .ok (.aload_n 0, 1) := by decide +kernel
theorem dX4_readOrder_120 : decode cX4_readOrder 120 = .ok (.aload_n 0, 1) := by decide +kernel
theorem dX4_readOrder_121 : decode cX4_readOrder 121 = .ok (.getfield 30, 3) := by decide +kernel
theorem dX4_readOrder_124 : decode cX4_readOrder 124 = .ok (.aload_n 0, 1) := by decide +kernel
theorem dX4_readOrder_125 : decode cX4_readOrder 125 = .ok (.getfield 33, 3) := by decide +kernel
theorem dX4_readOrder_128 : decode cX4_readOrder 128 = .ok (.isub, 1) := by decide +kernel
theorem dX4_readOrder_129 : decode cX4_readOrder 129 = .ok (.putfield 36, 3) := by decide +kernel
theorem dX4_readOrder_132 : decode cX4_readOrder 132 = .ok (.return_, 1) := by decide +kernel
theorem dX4_readOrder_133 : decode cX4_readOrder 133 = .ok (.aload_n 0, 1) := by decide +kernel
theorem dX4_readOrder_134 : decode cX4_readOrder 134 = .ok (.dup, 1) := by decide +kernel
theorem dX4_readOrder_135 : decode cX4_readOrder 135 = .ok (.getfield 30, 3) := by decide +kernel
theorem dX4_readOrder_138 : decode cX4_readOrder 138 = .ok (.iconst 1, 1) := by decide +kernel
theorem dX4_readOrder_139 : decode cX4_readOrder 139 = .ok (.iadd, 1) := by decide +kernel
theorem dX4_readOrder_140 : decode cX4_readOrder 140 = .ok (.putfield 30, 3) := by decide +kernel
theorem dX4_readOrder_143 : decode cX4_readOrder 143 = .ok (.aload_n 0, 1) := by decide +kernel
theorem dX4_readOrder_144 : decode cX4_readOrder 144 = .ok (.invokevirtual 57, 3) := by decide +kernel
theorem dX4_readOrder_147 : decode cX4_readOrder 147 = .ok (.return_, 1) := by decide +kernel
theorem dX4_readNumber_0 : decode cX4_readNumber 0 = .ok (.aload_n 0, 1) := by decide +kernel
theorem dX4_readNumber_1 : decode cX4_readNumber 1 = .ok (.aload_n 0, 1) := by decide +kernel
theorem dX4_readNumber_2 : decode cX4_readNumber 2 = .ok (.getfield 30, 3) := by decide +kernel
theorem dX4_readNumber_5 : decode cX4_readNumber 5 = .ok (.invokevirtual 53, 3) := by decide +kernel
theorem dX4_readNumber_8 : decode cX4_readNumber 8 = .ok (.bipush 32, 2) := by decide +kernel
theorem dX4_readNumber_10 : decode cX4_readNumber 10 = .ok (.if_icmp .eq 5, 3) := by decide +kernel
theorem dX4_readNumber_13 : decode cX4_readNumber 13 = .ok (.iconst 0, 1) := by decide +kernel
theorem dX4_readNumber_14 : decode cX4_readNumber 14 = .ok (.ireturn, 1) := by decide +kernel
theorem dX4_readNumber_15 : decode cX4_readNumber 15 = .ok (.aload_n 0, 1) := by decide +kernel
theorem dX4_readNumber_16 : decode cX4_readNumber 16 = .ok (.dup, 1) := by decide +kernel
theorem dX4_readNumber_17 : decode cX4_readNumber 17 = .ok (.getfield 30, 3) := by decide +kernel
theorem dX4_readNumber_20 : decode cX4_readNumber 20 = .ok (.iconst 1, 1) := by decide +kernel
theorem dX4_readNumber_21 : decode cX4_readNumber 21 = .ok (.iadd, 1) := by decide +kernel
theorem dX4_readNumber_22 : decode cX4_readNumber 22 = .ok (.putfield 30, 3) := by decide +kernel
theorem dX4_readNumber_25 : decode cX4_readNumber 25 = .ok (.aload_n 0, 1) := by decide +kernel
theorem dX4_readNumber_26 : decode cX4_readNumber 26 = .ok (.aload_n 0, 1) := by decide +kernel
theorem dX4_readNumber_27 : decode cX4_readNumber 27 = .ok (.getfield 30, 3) := by decide +kernel
theorem dX4_readNumber_30 : decode cX4_readNumber 30 = .ok (.invokevirtual 53, 3) := by decide +kernel
theorem dX4_readNumber_33 : decode cX4_readNumber 33 = .ok (.invokestatic 60, 3) := by decide +kernel
theorem dX4_readNumber_36 : decode cX4_readNumber 36 = .ok (.ifCond .ne 5, 3) := by decide +kernel
theorem dX4_readNumber_39 : decode cX4_readNumber 39 = .ok (.iconst 0, 1) := by decide +kernel
theorem dX4_readNumber_40 : decode cX4_readNumber 40 = .ok (.ireturn, 1) := by decide +kernel
theorem dX4_readNumber_41 : decode cX4_readNumber 41 = .ok (.aload_n 0, 1) := by decide +kernel
theorem dX4_readNumber_42 : decode cX4_readNumber 42 = .ok (.getfield 15, 3) := by decide +kernel
theorem dX4_readNumber_45 : decode cX4_readNumber 45 = .ok (.iload_n 1, 1) := by decide +kernel
theorem dX4_readNumber_46 : decode cX4_readNumber 46 = .ok (.aload_n 0, 1) := by decide +kernel
theorem dX4_readNumber_47 : decode cX4_readNumber 47 = .ok (.aload_n 0, 1) := by decide +kernel
theorem dX4_readNumber_48 : decode cX4_readNumber 48 = .ok (.getfield 30, 3) := by decide +kernel
theorem dX4_readNumber_51 : decode cX4_readNumber 51 = .ok (.invokevirtual 53, 3) := by decide +kernel
theorem dX4_readNumber_54 : decode cX4_readNumber 54 = .ok (.bipush 48, 2) := by decide +kernel
theorem dX4_readNumber_56 : decode cX4_readNumber 56 = .ok (.isub, 1) := by decide +kernel
theorem dX4_readNumber_57 : decode cX4_readNumber 57 = .ok (.iastore, 1) := by decide +kernel
theorem dX4_readNumber_58 : decode cX4_readNumber 58 = .ok (.aload_n 0, 1) := by decide +kernel
theorem dX4_readNumber_59 : decode cX4_readNumber 59 = .ok (.dup, 1) := by decide +kernel
theorem dX4_readNumber_60 : decode cX4_readNumber 60 = .ok (.getfield 30, 3) := by decide +kernel
theorem dX4_readNumber_63 : decode cX4_readNumber 63 = .ok (.iconst 1, 1) := by decide +kernel
theorem dX4_readNumber_64 : decode cX4_readNumber 64 = .ok (.iadd, 1) := by decide +kernel
theorem dX4_readNumber_65 : decode cX4_readNumber 65 = .ok (.putfield 30, 3) := by decide +kernel
theorem dX4_readNumber_68 : decode cX4_readNumber 68 = .ok (.aload_n 0, 1) := by decide +kernel
theorem dX4_readNumber_69 : decode cX4_readNumber 69 = .ok (.aload_n 0, 1) := by decide +kernel
theorem dX4_readNumber_70 : decode cX4_readNumber 70 = .ok (.getfield 30, 3) := by decide +kernel
theorem dX4_readNumber_73 : decode cX4_readNumber 73 = .ok (.invokevirtual 53, 3) := by decide +kernel
theorem dX4_readNumber_76 : decode cX4_readNumber 76 = .ok (.invokestatic 60, 3) := by decide +kernel
theorem dX4_readNumber_79 : decode cX4_readNumber 79 = .ok (.ifCond .eq 40, 3) := by decide +kernel
theorem dX4_readNumber_82 : decode cX4_readNumber 82 = .ok (.aload_n 0, 1) := by decide +kernel
theorem dX4_readNumber_83 : decode cX4_readNumber 83 = .ok (.getfield 15, 3) := by decide +kernel
theorem dX4_readNumber_86 : decode cX4_readNumber 86 = .ok (.iload_n 1, 1) := by decide +kernel
theorem dX4_readNumber_87 : decode cX4_readNumber 87 = .ok (.bipush 10, 2) := by decide +kernel
theorem dX4_readNumber_89 : decode cX4_readNumber 89 = .ok (.aload_n 0, 1) := by decide +kernel
theorem dX4_readNumber_90 : decode cX4_readNumber 90 = .ok (.getfield 15, 3) := by decide +kernel
theorem dX4_readNumber_93 : decode cX4_readNumber 93 = .ok (.iload_n 1, 1) := by decide +kernel
theorem dX4_readNumber_94 : decode cX4_readNumber 94 = .ok (.iaload, 1) := by decide +kernel
theorem dX4_readNumber_95 : decode cX4_readNumber 95 = .ok (.imul, 1) := by decide +kernel
theorem dX4_readNumber_96 : decode cX4_readNumber 96 = .ok (.aload_n 0, 1) := by decide +kernel
theorem dX4_readNumber_97 : decode cX4_readNumber 97 = .ok (.aload_n 0, 1) := by decide +kernel
theorem dX4_readNumber_98 : decode cX4_readNumber 98 = .ok (.getfield 30, 3) := by decide +kernel
theorem dX4_readNumber_101 : decode cX4_readNumber 101 = .ok (.invokevirtual 53, 3) := by decide +kernel
theorem dX4_readNumber_104 : decode cX4_readNumber 104 = .ok (.bipush 48, 2) := by decide +kernel
theorem dX4_readNumber_106 : decode cX4_readNumber 106 = .ok (.isub, 1) := by decide +kernel
theorem dX4_readNumber_107 : decode cX4_readNumber 107 = .ok (.iadd, 1) := by decide +kernel
theorem dX4_readNumber_108 : decode cX4_readNumber 108 = .ok (.iastore, 1) := by decide +kernel
theorem dX4_readNumber_109 : decode cX4_readNumber 109 = .ok (.aload_n 0, 1) := by decide +kernel
theorem dX4_readNumber_110 : decode cX4_readNumber 110 = .ok (.dup, 1) := by decide +kernel
theorem dX4_readNumber_111 : decode cX4_readNumber 111 = .ok (.getfield 30, 3) := by decide +kernel
theorem dX4_readNumber_114 : decode cX4_readNumber 114 = .ok (.iconst 1, 1) := by decide +kernel
theorem dX4_readNumber_115 : decode cX4_readNumber 115 = .ok (.iadd, 1) := by decide +kernel
theorem dX4_readNumber_116 : decode cX4_readNumber 116 = .ok (.putfield 30, 3) := by decide +kernel
theorem dX4_readNumber_119 : decode cX4_readNumber 119 = .ok (.iconst 1, 1) := by decide +kernel
theorem dX4_readNumber_120 : decode cX4_readNumber 120 = .ok (.ireturn, 1) := by decide +kernel
theorem dX4_checkRanges_0 : decode cX4_checkRanges 0 = .ok (.aload_n 0, 1) := by decide +kernel
theorem dX4_checkRanges_1 : decode cX4_checkRanges 1 = .ok (.getfield 46, 3) := by decide +kernel
theorem dX4_checkRanges_4 : decode cX4_checkRanges 4 = .ok (.iconst 4, 1) := by decide +kernel
theorem dX4_checkRanges_5 : decode cX4_checkRanges 5 = .ok (.if_icmp .ne 33, 3) := by decide +kernel
theorem dX4_checkRanges_8 : decode cX4_checkRanges 8 = .ok (.aload_n 0, 1) := by decide +kernel
theorem dX4_checkRanges_9 : decode cX4_checkRanges 9 = .ok (.getfield 15, 3) := by decide +kernel
theorem dX4_checkRanges_12 : decode cX4_checkRanges 12 = .ok (.iconst 0, 1) := by decide +kernel
theorem dX4_checkRanges_13 : decode cX4_checkRanges 13 = .ok (.iaload, 1) := by decide +kernel
theorem dX4_checkRanges_14 : decode cX4_checkRanges 14 = .ok (.getstatic 64, 3) := by decide +kernel
theorem dX4_checkRanges_17 : decode cX4_checkRanges 17 = .ok (.iconst 1, 1) := by decide +kernel
theorem dX4_checkRanges_18 : decode cX4_checkRanges 18 = .ok (.iaload, 1) := by decide +kernel
theorem dX4_checkRanges_19 : decode cX4_checkRanges 19 = .ok (.getstatic 67, 3) := by decide +kernel
theorem dX4_checkRanges_22 : decode cX4_checkRanges 22 = .ok (.iconst 1, 1) := by decide +kernel
theorem dX4_checkRanges_23 : decode cX4_checkRanges 23 = .ok (.iaload, 1) := by decide +kernel
theorem dX4_checkRanges_24 : decode cX4_checkRanges 24 = .ok (.invokestatic 70, 3) := by decide +kernel
theorem dX4_checkRanges_27 : decode cX4_checkRanges 27 = .ok (.ifCond .ne 56, 3) := by decide +kernel
theorem dX4_checkRanges_30 : decode cX4_checkRanges 30 = .ok (.aload_n 0, 1) := by decide +kernel
theorem dX4_checkRanges_31 : decode cX4_checkRanges 31 = .ok (.iconst 2, 1) := by decide +kernel
theorem dX4_checkRanges_32 : decode cX4_checkRanges 32 = .ok (.putfield 27, 3) := by decide +kernel
theorem dX4_checkRanges_35 : decode cX4_checkRanges 35 = .ok (.goto 48, 3) := by decide +kernel
theorem dX4_checkRanges_38 : decode cX4_checkRanges 38 = .ok (.aload_n 0, 1) := by decide +kernel
theorem dX4_checkRanges_39 : decode cX4_checkRanges 39 = .ok (.getfield 15, 3) := by decide +kernel
theorem dX4_checkRanges_42 : decode cX4_checkRanges 42 = .ok (.iconst 0, 1) := by decide +kernel
theorem dX4_checkRanges_43 : decode cX4_checkRanges 43 = .ok (.iaload, 1) := by decide +kernel
theorem dX4_checkRanges_44 : decode cX4_checkRanges 44 = .ok (.invokestatic 74, 3) := by decide +kernel
theorem dX4_checkRanges_47 : decode cX4_checkRanges 47 = .ok (.ifCond .ne 11, 3) := by decide +kernel
theorem dX4_checkRanges_50 : decode cX4_checkRanges 50 = .ok (.aload_n 0, 1) := by decide +kernel
theorem dX4_checkRanges_51 : decode cX4_checkRanges 51 = .ok (.iconst 2, 1) := by decide +kernel
theorem dX4_checkRanges_52 : decode cX4_checkRanges 52 = .ok (.putfield 27, 3) := by decide +kernel
theorem dX4_checkRanges_55 : decode cX4_checkRanges 55 = .ok (.goto 28, 3) := by decide +kernel
theorem dX4_checkRanges_58 : decode cX4_checkRanges 58 = .ok (.aload_n 0, 1) := by decide +kernel
theorem dX4_checkRanges_59 : decode cX4_checkRanges 59 = .ok (.getfield 15, 3) := by decide +kernel
theorem dX4_checkRanges_62 : decode cX4_checkRanges 62 = .ok (.iconst 1, 1) := by decide +kernel
theorem dX4_checkRanges_63 : decode cX4_checkRanges 63 = .ok (.iaload, 1) := by decide +kernel
theorem dX4_checkRanges_64 : decode cX4_checkRanges 64 = .ok (.iconst 1, 1) := by decide +kernel
theorem dX4_checkRanges_65 : decode cX4_checkRanges 65 = .ok (.bipush 40, 2) := by decide +kernel
theorem dX4_checkRanges_67 : decode cX4_checkRanges 67 = .ok (.invokestatic 70, 3) := by decide +kernel
theorem dX4_checkRanges_70 : decode cX4_checkRanges 70 = .ok (.ifCond .ne 13, 3) := by decide +kernel
theorem dX4_checkRanges_73 : decode cX4_checkRanges 73 = .ok (.aload_n 0, 1) := by decide +kernel
theorem dX4_checkRanges_74 : decode cX4_checkRanges 74 = .ok (.iconst 2, 1) := by decide +kernel
theorem dX4_checkRanges_75 : decode cX4_checkRanges 75 = .ok (.putfield 27, 3) := by decide +kernel
theorem dX4_checkRanges_78 : decode cX4_checkRanges 78 = .ok (.aload_n 0, 1) := by decide +kernel
theorem dX4_checkRanges_79 : decode cX4_checkRanges 79 = .ok (.iconst 1, 1) := by decide +kernel
theorem dX4_checkRanges_80 : decode cX4_checkRanges 80 = .ok (.putfield 36, 3) := by decide +kernel
theorem dX4_checkRanges_83 : decode cX4_checkRanges 83 = .ok (.return_, 1) := by decide +kernel
theorem dX4_endOfLetters_0 : decode cX4_endOfLetters 0 = .ok (.iload_n 1, 1) := by decide +kernel
theorem dX4_endOfLetters_1 : decode cX4_endOfLetters 1 = .ok (.istore_n 2, 1) := by decide +kernel
theorem dX4_endOfLetters_2 : decode cX4_endOfLetters 2 = .ok (.iconst 0, 1) := by decide +kernel
theorem dX4_endOfLetters_3 : decode cX4_endOfLetters 3 = .ok (.istore_n 3, 1) := by decide +kernel
theorem dX4_endOfLetters_4 : decode cX4_endOfLetters 4 = .ok (.iload_n 3, 1) := by decide +kernel
theorem dX4_endOfLetters_5 : decode cX4_endOfLetters 5 = .ok (.bipush 80, 2) := by decide +kernel
theorem dX4_endOfLetters_7 : decode cX4_endOfLetters 7 = .ok (.if_icmp .ge 32, 3) := by decide +kernel
theorem dX4_endOfLetters_10 : decode cX4_endOfLetters 10 = .ok (.aload_n 0, 1) := by decide +kernel
theorem dX4_endOfLetters_11 : decode cX4_endOfLetters 11 = .ok (.iload_n 2, 1) := by decide +kernel
theorem dX4_endOfLetters_12 : decode cX4_endOfLetters 12 = .ok (.invokevirtual 53, 3) := by decide +kernel
theorem dX4_endOfLetters_15 : decode cX4_endOfLetters 15 = .ok (.bipush 97, 2) := by decide +kernel
theorem dX4_endOfLetters_17 : decode cX4_endOfLetters 17 = .ok (.if_icmp .lt 22, 3) := by decide +kernel
theorem dX4_endOfLetters_20 : decode cX4_endOfLetters 20 = .ok (.aload_n 0, 1) := by decide +kernel
theorem dX4_endOfLetters_21 : decode cX4_endOfLetters 21 = .ok (.iload_n 2, 1) := by decide +kernel
theorem dX4_endOfLetters_22 : decode cX4_endOfLetters 22 = .ok (.invokevirtual 53, 3) := by decide +kernel
theorem dX4_endOfLetters_25 : decode cX4_endOfLetters 25 = .ok (.bipush 122, 2) := by decide +kernel
theorem dX4_endOfLetters_27 : decode cX4_endOfLetters 27 = .ok (.if_icmp .gt 12, 3) := by decide +kernel
theorem dX4_endOfLetters_30 : decode cX4_endOfLetters 30 = .ok (.iinc 2 1, 3) := by decide +kernel
theorem dX4_endOfLetters_33 : decode cX4_endOfLetters 33 = .ok (.iinc 3 1, 3) := by decide +kernel
theorem dX4_endOfLetters_36 : decode cX4_endOfLetters 36 = .ok (.goto (-32), 3) := by decide +kernel
theorem dX4_endOfLetters_39 : decode cX4_endOfLetters 39 = .ok (.iload_n 2, 1) := by decide +kernel
theorem dX4_endOfLetters_40 : decode cX4_endOfLetters 40 = .ok (.ireturn, 1) := by decide +kernel
theorem dX4_wordUpTo_0 : decode cX4_wordUpTo 0 = .ok (.aload_n 0, 1) := by decide +kernel
theorem dX4_wordUpTo_1 : decode cX4_wordUpTo 1 = .ok (.ldc 77, 2) := by decide +kernel
theorem dX4_wordUpTo_3 : decode cX4_wordUpTo 3 = .ok (.iload_n 1, 1) := by decide +kernel
theorem dX4_wordUpTo_4 : decode cX4_wordUpTo 4 = .ok (.invokevirtual 79, 3) := by decide +kernel
theorem dX4_wordUpTo_7 : decode cX4_wordUpTo 7 = .ok (.ifCond .eq 5, 3) := by decide +kernel
theorem dX4_wordUpTo_10 : decode cX4_wordUpTo 10 = .ok (.iconst 0, 1) := by decide +kernel
theorem dX4_wordUpTo_11 : decode cX4_wordUpTo 11 = .ok (.ireturn, 1) := by decide +kernel
theorem dX4_wordUpTo_12 : decode cX4_wordUpTo 12 = .ok (.aload_n 0, 1) := by decide +kernel
theorem dX4_wordUpTo_13 : decode cX4_wordUpTo 13 = .ok (.ldc 83, 2) := by decide +kernel
theorem dX4_wordUpTo_15 : decode cX4_wordUpTo 15 = .ok (.iload_n 1, 1) := by decide +kernel
theorem dX4_wordUpTo_16 : decode cX4_wordUpTo 16 = .ok (.invokevirtual 79, 3) := by decide +kernel
theorem dX4_wordUpTo_19 : decode cX4_wordUpTo 19 = .ok (.ifCond .eq 5, 3) := by decide +kernel
theorem dX4_wordUpTo_22 : decode cX4_wordUpTo 22 = .ok (.iconst 1, 1) := by decide +kernel
theorem dX4_wordUpTo_23 : decode cX4_wordUpTo 23 = .ok (.ireturn, 1) := by decide +kernel
theorem dX4_wordUpTo_24 : decode cX4_wordUpTo 24 = .ok (.aload_n 0, 1) := by decide +kernel
theorem dX4_wordUpTo_25 : decode cX4_wordUpTo 25 = .ok (.ldc 85, 2) := by decide +kernel
theorem dX4_wordUpTo_27 : decode cX4_wordUpTo 27 = .ok (.iload_n 1, 1) := by decide +kernel
theorem dX4_wordUpTo_28 : decode cX4_wordUpTo 28 = .ok (.invokevirtual 79, 3) := by decide +kernel
theorem dX4_wordUpTo_31 : decode cX4_wordUpTo 31 = .ok (.ifCond .eq 5, 3) := by decide +kernel
theorem dX4_wordUpTo_34 : decode cX4_wordUpTo 34 = .ok (.iconst 2, 1) := by decide +kernel
theorem dX4_wordUpTo_35 : decode cX4_wordUpTo 35 = .ok (.ireturn, 1) := by decide +kernel
theorem dX4_wordUpTo_36 : decode cX4_wordUpTo 36 = .ok (.aload_n 0, 1) := by decide +kernel
theorem dX4_wordUpTo_37 : decode cX4_wordUpTo 37 = .ok (.ldc 87, 2) := by decide +kernel
theorem dX4_wordUpTo_39 : decode cX4_wordUpTo 39 = .ok (.iload_n 1, 1) := by decide +kernel
theorem dX4_wordUpTo_40 : decode cX4_wordUpTo 40 = .ok (.invokevirtual 79, 3) := by decide +kernel
theorem dX4_wordUpTo_43 : decode cX4_wordUpTo 43 = .ok (.ifCond .eq 5, 3) := by decide +kernel
theorem dX4_wordUpTo_46 : decode cX4_wordUpTo 46 = .ok (.iconst 3, 1) := by decide +kernel
theorem dX4_wordUpTo_47 : decode cX4_wordUpTo 47 = .ok (.ireturn, 1) := by decide +kernel
theorem dX4_wordUpTo_48 : decode cX4_wordUpTo 48 = .ok (.aload_n 0, 1) := by decide +kernel
theorem dX4_wordUpTo_49 : decode cX4_wordUpTo 49 = .ok (.ldc 89, 2) := by decide +kernel
theorem dX4_wordUpTo_51 : decode cX4_wordUpTo 51 = .ok (.iload_n 1, 1) := by decide +kernel
theorem dX4_wordUpTo_52 : decode cX4_wordUpTo 52 = .ok (.invokevirtual 79, 3) := by decide +kernel
theorem dX4_wordUpTo_55 : decode cX4_wordUpTo 55 = .ok (.ifCond .eq 7, 3) := by decide +kernel
theorem dX4_wordUpTo_58 : decode cX4_wordUpTo 58 = .ok (.iconst 4, 1) := by decide +kernel
theorem dX4_wordUpTo_59 : decode cX4_wordUpTo 59 = .ok (.goto 4, 3) := by decide +kernel
theorem dX4_wordUpTo_62 : decode cX4_wordUpTo 62 = .ok (.iconst (-1), 1) := by decide +kernel
theorem dX4_wordUpTo_63 : decode cX4_wordUpTo 63 = .ok (.ireturn, 1) := by decide +kernel
theorem dX4_isWord_0 : decode cX4_isWord 0 = .ok (.iload_n 2, 1) := by decide +kernel
theorem dX4_isWord_1 : decode cX4_isWord 1 = .ok (.aload_n 0, 1) := by decide +kernel
theorem dX4_isWord_2 : decode cX4_isWord 2 = .ok (.getfield 33, 3) := by decide +kernel
theorem dX4_isWord_5 : decode cX4_isWord 5 = .ok (.isub, 1) := by decide +kernel
theorem dX4_isWord_6 : decode cX4_isWord 6 = .ok (.aload_n 1, 1) := by decide +kernel
theorem dX4_isWord_7 : decode cX4_isWord 7 = .ok (.invokevirtual 91, 3) := by decide +kernel
theorem dX4_isWord_10 : decode cX4_isWord 10 = .ok (.if_icmp .eq 5, 3) := by decide +kernel
theorem dX4_isWord_13 : decode cX4_isWord 13 = .ok (.iconst 0, 1) := by decide +kernel
theorem dX4_isWord_14 : decode cX4_isWord 14 = .ok (.ireturn, 1) := by decide +kernel
theorem dX4_isWord_15 : decode cX4_isWord 15 = .ok (.iconst 0, 1) := by decide +kernel
theorem dX4_isWord_16 : decode cX4_isWord 16 = .ok (.istore_n 3, 1) := by decide +kernel
theorem dX4_isWord_17 : decode cX4_isWord 17 = .ok (.iload_n 3, 1) := by decide +kernel
theorem dX4_isWord_18 : decode cX4_isWord 18 = .ok (.aload_n 1, 1) := by decide +kernel
theorem dX4_isWord_19 : decode cX4_isWord 19 = .ok (.invokevirtual 91, 3) := by decide +kernel
theorem dX4_isWord_22 : decode cX4_isWord 22 = .ok (.if_icmp .ge 29, 3) := by decide +kernel
theorem dX4_isWord_25 : decode cX4_isWord 25 = .ok (.aload_n 0, 1) := by decide +kernel
theorem dX4_isWord_26 : decode cX4_isWord 26 = .ok (.aload_n 0, 1) := by decide +kernel
theorem dX4_isWord_27 : decode cX4_isWord 27 = .ok (.getfield 33, 3) := by decide +kernel
theorem dX4_isWord_30 : decode cX4_isWord 30 = .ok (.iload_n 3, 1) := by decide +kernel
theorem dX4_isWord_31 : decode cX4_isWord 31 = .ok (.iadd, 1) := by decide +kernel
theorem dX4_isWord_32 : decode cX4_isWord 32 = .ok (.invokevirtual 53, 3) := by decide +kernel
theorem dX4_isWord_35 : decode cX4_isWord 35 = .ok (.aload_n 1, 1) := by decide +kernel
theorem dX4_isWord_36 : decode cX4_isWord 36 = .ok (.iload_n 3, 1) := by decide +kernel
theorem dX4_isWord_37 : decode cX4_isWord 37 = .ok (.invokevirtual 96, 3) := by decide +kernel
theorem dX4_isWord_40 : decode cX4_isWord 40 = .ok (.if_icmp .eq 5, 3) := by decide +kernel
theorem dX4_isWord_43 : decode cX4_isWord 43 = .ok (.iconst 0, 1) := by decide +kernel
theorem dX4_isWord_44 : decode cX4_isWord 44 = .ok (.ireturn, 1) := by decide +kernel
theorem dX4_isWord_45 : decode cX4_isWord 45 = .ok (.iinc 3 1, 3) := by decide +kernel
theorem dX4_isWord_48 : decode cX4_isWord 48 = .ok (.goto (-31), 3) := by decide +kernel
theorem dX4_isWord_51 : decode cX4_isWord 51 = .ok (.iconst 1, 1) := by decide +kernel
theorem dX4_isWord_52 : decode cX4_isWord 52 = .ok (.ireturn, 1) := by decide +kernel
theorem dX4_characterAt_0 : decode cX4_characterAt 0 = .ok (.iload_n 1, 1) := by decide +kernel
theorem dX4_characterAt_1 : decode cX4_characterAt 1 = .ok (.iconst 0, 1) := by decide +kernel
theorem dX4_characterAt_2 : decode cX4_characterAt 2 = .ok (.aload_n 0, 1) := by decide +kernel
theorem dX4_characterAt_3 : decode cX4_characterAt 3 = .ok (.getfield 19, 3) := by decide +kernel
theorem dX4_characterAt_6 : decode cX4_characterAt 6 = .ok (.iconst 1, 1) := by decide +kernel
theorem dX4_characterAt_7 : decode cX4_characterAt 7 = .ok (.isub, 1) := by decide +kernel
theorem dX4_characterAt_8 : decode cX4_characterAt 8 = .ok (.invokestatic 70, 3) := by decide +kernel
theorem dX4_characterAt_11 : decode cX4_characterAt 11 = .ok (.ifCond .eq 12, 3) := by decide +kernel
theorem dX4_characterAt_14 : decode cX4_characterAt 14 = .ok (.aload_n 0, 1) := by decide +kernel
theorem dX4_characterAt_15 : decode cX4_characterAt 15 = .ok (.getfield 9, 3) := by decide +kernel
theorem dX4_characterAt_18 : decode cX4_characterAt 18 = .ok (.iload_n 1, 1) := by decide +kernel
theorem dX4_characterAt_19 : decode cX4_characterAt 19 = .ok (.caload, 1) := by decide +kernel
theorem dX4_characterAt_20 : decode cX4_characterAt 20 = .ok (.goto 4, 3) := by decide +kernel
theorem dX4_characterAt_23 : decode cX4_characterAt 23 = .ok (.iconst 0, 1) := by decide +kernel
theorem dX4_characterAt_24 : decode cX4_characterAt 24 = .ok (.ireturn, 1) := by decide +kernel
theorem dX4_isDigit_0 : decode cX4_isDigit 0 = .ok (.iload_n 0, 1) := by decide +kernel
theorem dX4_isDigit_1 : decode cX4_isDigit 1 = .ok (.bipush 48, 2) := by decide +kernel
theorem dX4_isDigit_3 : decode cX4_isDigit 3 = .ok (.if_icmp .lt 13, 3) := by decide +kernel
theorem dX4_isDigit_6 : decode cX4_isDigit 6 = .ok (.iload_n 0, 1) := by decide +kernel
theorem dX4_isDigit_7 : decode cX4_isDigit 7 = .ok (.bipush 57, 2) := by decide +kernel
theorem dX4_isDigit_9 : decode cX4_isDigit 9 = .ok (.if_icmp .gt 7, 3) := by decide +kernel
theorem dX4_isDigit_12 : decode cX4_isDigit 12 = .ok (.iconst 1, 1) := by decide +kernel
theorem dX4_isDigit_13 : decode cX4_isDigit 13 = .ok (.goto 4, 3) := by decide +kernel
theorem dX4_isDigit_16 : decode cX4_isDigit 16 = .ok (.iconst 0, 1) := by decide +kernel
theorem dX4_isDigit_17 : decode cX4_isDigit 17 = .ok (.ireturn, 1) := by decide +kernel
theorem dJ9_max_7cf53_0 : decode cJ9_max_7cf53 0 = .ok (.iload_n 0, 1) := by decide +kernel
theorem dJ9_max_7cf53_1 : decode cJ9_max_7cf53 1 = .ok (.iload_n 1, 1) := by decide +kernel
theorem dJ9_max_7cf53_2 : decode cJ9_max_7cf53 2 = .ok (.if_icmp .lt 7, 3) := by decide +kernel
theorem dJ9_max_7cf53_5 : decode cJ9_max_7cf53 5 = .ok (.iload_n 0, 1) := by decide +kernel
theorem dJ9_max_7cf53_6 : decode cJ9_max_7cf53 6 = .ok (.goto 4, 3) := by decide +kernel
theorem dJ9_max_7cf53_9 : decode cJ9_max_7cf53 9 = .ok (.iload_n 1, 1) := by decide +kernel
theorem dJ9_max_7cf53_10 : decode cJ9_max_7cf53 10 = .ok (.ireturn, 1) := by decide +kernel
theorem dJ9_min_7cf53_0 : decode cJ9_min_7cf53 0 = .ok (.iload_n 0, 1) := by decide +kernel
theorem dJ9_min_7cf53_1 : decode cJ9_min_7cf53 1 = .ok (.iload_n 1, 1) := by decide +kernel
theorem dJ9_min_7cf53_2 : decode cJ9_min_7cf53 2 = .ok (.if_icmp .gt 7, 3) := by decide +kernel
theorem dJ9_min_7cf53_5 : decode cJ9_min_7cf53 5 = .ok (.iload_n 0, 1) := by decide +kernel
theorem dJ9_min_7cf53_6 : decode cJ9_min_7cf53 6 = .ok (.goto 4, 3) := by decide +kernel
theorem dJ9_min_7cf53_9 : decode cJ9_min_7cf53 9 = .ok (.iload_n 1, 1) := by decide +kernel
theorem dJ9_min_7cf53_10 : decode cJ9_min_7cf53 10 = .ok (.ireturn, 1) := by decide +kernel
theorem dJ0_length_8abf5_0 : decode cJ0_length_8abf5 0 = .ok (.aload_n 0, 1) := by decide +kernel
theorem dJ0_length_8abf5_1 : decode cJ0_length_8abf5 1 = .ok (.getfield 9, 3) := by decide +kernel
theorem dJ0_length_8abf5_4 : decode cJ0_length_8abf5 4 = .ok (.arraylength, 1) := by decide +kernel
theorem dJ0_length_8abf5_5 : decode cJ0_length_8abf5 5 = .ok (.aload_n 0, 1) := by decide +kernel
theorem dJ0_length_8abf5_6 : decode cJ0_length_8abf5 6 = .ok (.invokevirtual 335, 3) := by decide +kernel
theorem dJ0_length_8abf5_9 : decode cJ0_length_8abf5 9 = .ok (.ishr, 1) := by decide +kernel
theorem dJ0_length_8abf5_10 : decode cJ0_length_8abf5 10 = .ok (.ireturn, 1) := by decide +kernel
theorem dJ0_charAt_5068e_0 : decode cJ0_charAt_5068e 0 = .ok (.aload_n 0, 1) := by decide +kernel
theorem dJ0_charAt_5068e_1 : decode cJ0_charAt_5068e 1 = .ok (.invokevirtual 492, 3) := by decide +kernel
theorem dJ0_charAt_5068e_4 : decode cJ0_charAt_5068e 4 = .ok (.ifCond .eq 12, 3) := by decide +kernel
theorem dJ0_charAt_5068e_7 : decode cJ0_charAt_5068e 7 = .ok (.aload_n 0, 1) := by decide +kernel
theorem dJ0_charAt_5068e_8 : decode cJ0_charAt_5068e 8 = .ok (.getfield 9, 3) := by decide +kernel
theorem dJ0_charAt_5068e_11 : decode cJ0_charAt_5068e 11 = .ok (.iload_n 1, 1) := by decide +kernel
theorem dJ0_charAt_5068e_12 : decode cJ0_charAt_5068e 12 = .ok (.invokestatic 495, 3) := by decide +kernel
theorem dJ0_charAt_5068e_15 : decode cJ0_charAt_5068e 15 = .ok (.ireturn, 1) := by decide +kernel
theorem dJ0_charAt_5068e_16 : decode cJ0_charAt_5068e 16 = .ok (.aload_n 0, 1) := by decide +kernel
theorem dJ0_charAt_5068e_17 : decode cJ0_charAt_5068e 17 = .ok (.getfield 9, 3) := by decide +kernel
theorem dJ0_charAt_5068e_20 : decode cJ0_charAt_5068e 20 = .ok (.iload_n 1, 1) := by decide +kernel
theorem dJ0_charAt_5068e_21 : decode cJ0_charAt_5068e 21 = .ok (.invokestatic 498, 3) := by decide +kernel
theorem dJ0_charAt_5068e_24 : decode cJ0_charAt_5068e 24 = .ok (.ireturn, 1) := by decide +kernel
theorem dJ0_coder_7d493_0 : decode cJ0_coder_7d493 0 = .ok (.getstatic 38, 3) := by decide +kernel
theorem dJ0_coder_7d493_3 : decode cJ0_coder_7d493 3 = .ok (.ifCond .eq 10, 3) := by decide +kernel
theorem dJ0_coder_7d493_6 : decode cJ0_coder_7d493 6 = .ok (.aload_n 0, 1) := by decide +kernel
theorem dJ0_coder_7d493_7 : decode cJ0_coder_7d493 7 = .ok (.getfield 15, 3) := by decide +kernel
theorem dJ0_coder_7d493_10 : decode cJ0_coder_7d493 10 = .ok (.goto 4, 3) := by decide +kernel
theorem dJ0_coder_7d493_13 : decode cJ0_coder_7d493 13 = .ok (.iconst 1, 1) := by decide +kernel
theorem dJ0_coder_7d493_14 : decode cJ0_coder_7d493 14 = .ok (.ireturn, 1) := by decide +kernel
theorem dJ0_isLatin1_aae02_0 : decode cJ0_isLatin1_aae02 0 = .ok (.getstatic 38, 3) := by decide +kernel
theorem dJ0_isLatin1_aae02_3 : decode cJ0_isLatin1_aae02 3 = .ok (.ifCond .eq 14, 3) := by decide +kernel
theorem dJ0_isLatin1_aae02_6 : decode cJ0_isLatin1_aae02 6 = .ok (.aload_n 0, 1) := by decide +kernel
theorem dJ0_isLatin1_aae02_7 : decode cJ0_isLatin1_aae02 7 = .ok (.getfield 15, 3) := by decide +kernel
theorem dJ0_isLatin1_aae02_10 : decode cJ0_isLatin1_aae02 10 = .ok (.ifCond .ne 7, 3) := by decide +kernel
theorem dJ0_isLatin1_aae02_13 : decode cJ0_isLatin1_aae02 13 = .ok (.iconst 1, 1) := by decide +kernel
theorem dJ0_isLatin1_aae02_14 : decode cJ0_isLatin1_aae02 14 = .ok (.goto 4, 3) := by decide +kernel
theorem dJ0_isLatin1_aae02_17 : decode cJ0_isLatin1_aae02 17 = .ok (.iconst 0, 1) := by decide +kernel
theorem dJ0_isLatin1_aae02_18 : decode cJ0_isLatin1_aae02 18 = .ok (.ireturn, 1) := by decide +kernel
theorem dJ0_checkIndex_df160_0 : decode cJ0_checkIndex_df160 0 = .ok (.iload_n 0, 1) := by decide +kernel
theorem dJ0_checkIndex_df160_1 : decode cJ0_checkIndex_df160 1 = .ok (.iload_n 1, 1) := by decide +kernel
theorem dJ0_checkIndex_df160_2 : decode cJ0_checkIndex_df160 2 = .ok (.getstatic 1053, 3) := by decide +kernel
theorem dJ0_checkIndex_df160_5 : decode cJ0_checkIndex_df160 5 = .ok (.invokestatic 1059, 3) := by decide +kernel
theorem dJ0_checkIndex_df160_8 : decode cJ0_checkIndex_df160 8 = .ok (.pop, 1) := by decide +kernel
theorem dJ0_checkIndex_df160_9 : decode cJ0_checkIndex_df160 9 = .ok (.return_, 1) := by decide +kernel
theorem dJ1_charAt_3b067_0 : decode cJ1_charAt_3b067 0 = .ok (.iload_n 1, 1) := by decide +kernel
theorem dJ1_charAt_3b067_1 : decode cJ1_charAt_3b067 1 = .ok (.aload_n 0, 1) := by decide +kernel
theorem dJ1_charAt_3b067_2 : decode cJ1_charAt_3b067 2 = .ok (.arraylength, 1) := by decide +kernel
theorem dJ1_charAt_3b067_3 : decode cJ1_charAt_3b067 3 = .ok (.invokestatic 9, 3) := by decide +kernel
theorem dJ1_charAt_3b067_6 : decode cJ1_charAt_3b067 6 = .ok (.aload_n 0, 1) := by decide +kernel
theorem dJ1_charAt_3b067_7 : decode cJ1_charAt_3b067 7 = .ok (.iload_n 1, 1) := by decide +kernel
theorem dJ1_charAt_3b067_8 : decode cJ1_charAt_3b067 8 = .ok (.baload, 1) := by decide +kernel
theorem dJ1_charAt_3b067_9 : decode cJ1_charAt_3b067 9 = .ok (.sipush 255, 3) := by decide +kernel
theorem dJ1_charAt_3b067_12 : decode cJ1_charAt_3b067 12 = .ok (.iand, 1) := by decide +kernel
theorem dJ1_charAt_3b067_13 : decode cJ1_charAt_3b067 13 = .ok (.i2c, 1) := by decide +kernel
theorem dJ1_charAt_3b067_14 : decode cJ1_charAt_3b067 14 = .ok (.ireturn, 1) := by decide +kernel
theorem dJ2_getChar_3b067_0 : decode cJ2_getChar_3b067 0 = .ok (.getstatic 44, 3) := by decide +kernel
theorem dJ2_getChar_3b067_3 : decode cJ2_getChar_3b067 3 = .ok (.ifCond .ne 25, 3) := by decide +kernel
theorem dJ2_getChar_3b067_6 : decode cJ2_getChar_3b067 6 = .ok (.iload_n 1, 1) := by decide +kernel
theorem dJ2_getChar_3b067_7 : decode cJ2_getChar_3b067 7 = .ok (.ifCond .lt 11, 3) := by decide +kernel
theorem dJ2_getChar_3b067_10 : decode cJ2_getChar_3b067 10 = .ok (.iload_n 1, 1) := by decide +kernel
theorem dJ2_getChar_3b067_11 : decode cJ2_getChar_3b067 11 = .ok (.aload_n 0, 1) := by decide +kernel
theorem dJ2_getChar_3b067_12 : decode cJ2_getChar_3b067 12 = .ok (.invokestatic 48, 3) := by decide +kernel
theorem dJ2_getChar_3b067_15 : decode cJ2_getChar_3b067 15 = .ok (.if_icmp .lt 13, 3) := by decide +kernel
theorem dJ2_getChar_3b067_18 : decode cJ2_getChar_3b067 18 = .ok (.new 52, 3) := by decide +kernel
theorem dJ2_getChar_3b067_21 : decode cJ2_getChar_3b067 21 = .ok (.dup, 1) := by decide +kernel
theorem dJ2_getChar_3b067_22 : decode cJ2_getChar_3b067 22 = .ok (.ldc 54, 2) := by decide +kernel
theorem dJ2_getChar_3b067_24 : decode cJ2_getChar_3b067 24 = .ok (.invokespecial 56, 3) := by decide +kernel
theorem dJ2_getChar_3b067_27 : decode cJ2_getChar_3b067 27 = .ok (.athrow, 1) := by decide +kernel
theorem dJ2_getChar_3b067_28 : decode cJ2_getChar_3b067 28 = .ok (.iload_n 1, 1) := by decide +kernel
theorem dJ2_getChar_3b067_29 : decode cJ2_getChar_3b067 29 = .ok (.iconst 1, 1) := by decide +kernel
theorem dJ2_getChar_3b067_30 : decode cJ2_getChar_3b067 30 = .ok (.ishl, 1) := by decide +kernel
theorem dJ2_getChar_3b067_31 : decode cJ2_getChar_3b067 31 = .ok (.istore_n 1, 1) := by decide +kernel
theorem dJ2_getChar_3b067_32 : decode cJ2_getChar_3b067 32 = .ok (.aload_n 0, 1) := by decide +kernel
theorem dJ2_getChar_3b067_33 : decode cJ2_getChar_3b067 33 = .ok (.iload_n 1, 1) := by decide +kernel
theorem dJ2_getChar_3b067_34 : decode cJ2_getChar_3b067 34 = .ok (.iinc 1 1, 3) := by decide +kernel
theorem dJ2_getChar_3b067_37 : decode cJ2_getChar_3b067 37 = .ok (.baload, 1) := by decide +kernel
theorem dJ2_getChar_3b067_38 : decode cJ2_getChar_3b067 38 = .ok (.sipush 255, 3) := by decide +kernel
theorem dJ2_getChar_3b067_41 : decode cJ2_getChar_3b067 41 = .ok (.iand, 1) := by decide +kernel
theorem dJ2_getChar_3b067_42 : decode cJ2_getChar_3b067 42 = .ok (.getstatic 59, 3) := by decide +kernel
theorem dJ2_getChar_3b067_45 : decode cJ2_getChar_3b067 45 = .ok (.ishl, 1) := by decide +kernel
theorem dJ2_getChar_3b067_46 : decode cJ2_getChar_3b067 46 = .ok (.aload_n 0, 1) := by decide +kernel
theorem dJ2_getChar_3b067_47 : decode cJ2_getChar_3b067 47 = .ok (.iload_n 1, 1) := by decide +kernel
theorem dJ2_getChar_3b067_48 : decode cJ2_getChar_3b067 48 = .ok (.baload, 1) := by decide +kernel
theorem dJ2_getChar_3b067_49 : decode cJ2_getChar_3b067 49 = .ok (.sipush 255, 3) := by decide +kernel
theorem dJ2_getChar_3b067_52 : decode cJ2_getChar_3b067 52 = .ok (.iand, 1) := by decide +kernel
theorem dJ2_getChar_3b067_53 : decode cJ2_getChar_3b067 53 = .ok (.getstatic 63, 3) := by decide +kernel
theorem dJ2_getChar_3b067_56 : decode cJ2_getChar_3b067 56 = .ok (.ishl, 1) := by decide +kernel
theorem dJ2_getChar_3b067_57 : decode cJ2_getChar_3b067 57 = .ok (.ior, 1) := by decide +kernel
theorem dJ2_getChar_3b067_58 : decode cJ2_getChar_3b067 58 = .ok (.i2c, 1) := by decide +kernel
theorem dJ2_getChar_3b067_59 : decode cJ2_getChar_3b067 59 = .ok (.ireturn, 1) := by decide +kernel
theorem dJ2_length_9d52b_0 : decode cJ2_length_9d52b 0 = .ok (.aload_n 0, 1) := by decide +kernel
theorem dJ2_length_9d52b_1 : decode cJ2_length_9d52b 1 = .ok (.arraylength, 1) := by decide +kernel
theorem dJ2_length_9d52b_2 : decode cJ2_length_9d52b 2 = .ok (.iconst 1, 1) := by decide +kernel
theorem dJ2_length_9d52b_3 : decode cJ2_length_9d52b 3 = .ok (.ishr, 1) := by decide +kernel
theorem dJ2_length_9d52b_4 : decode cJ2_length_9d52b 4 = .ok (.ireturn, 1) := by decide +kernel
theorem dJ2_charAt_3b067_0 : decode cJ2_charAt_3b067 0 = .ok (.iload_n 1, 1) := by decide +kernel
theorem dJ2_charAt_3b067_1 : decode cJ2_charAt_3b067 1 = .ok (.aload_n 0, 1) := by decide +kernel
theorem dJ2_charAt_3b067_2 : decode cJ2_charAt_3b067 2 = .ok (.invokestatic 67, 3) := by decide +kernel
theorem dJ2_charAt_3b067_5 : decode cJ2_charAt_3b067 5 = .ok (.aload_n 0, 1) := by decide +kernel
theorem dJ2_charAt_3b067_6 : decode cJ2_charAt_3b067 6 = .ok (.iload_n 1, 1) := by decide +kernel
theorem dJ2_charAt_3b067_7 : decode cJ2_charAt_3b067 7 = .ok (.invokestatic 71, 3) := by decide +kernel
theorem dJ2_charAt_3b067_10 : decode cJ2_charAt_3b067 10 = .ok (.ireturn, 1) := by decide +kernel
theorem dJ2_checkIndex_2214a_0 : decode cJ2_checkIndex_2214a 0 = .ok (.iload_n 0, 1) := by decide +kernel
theorem dJ2_checkIndex_2214a_1 : decode cJ2_checkIndex_2214a 1 = .ok (.aload_n 1, 1) := by decide +kernel
theorem dJ2_checkIndex_2214a_2 : decode cJ2_checkIndex_2214a 2 = .ok (.invokestatic 48, 3) := by decide +kernel
theorem dJ2_checkIndex_2214a_5 : decode cJ2_checkIndex_2214a 5 = .ok (.invokestatic 414, 3) := by decide +kernel
theorem dJ2_checkIndex_2214a_8 : decode cJ2_checkIndex_2214a 8 = .ok (.return_, 1) := by decide +kernel
theorem dJ3_checkIndex_8e157_0 : decode cJ3_checkIndex_8e157 0 = .ok (.iload_n 0, 1) := by decide +kernel
theorem dJ3_checkIndex_8e157_1 : decode cJ3_checkIndex_8e157 1 = .ok (.ifCond .lt 8, 3) := by decide +kernel
theorem dJ3_checkIndex_8e157_4 : decode cJ3_checkIndex_8e157 4 = .ok (.iload_n 0, 1) := by decide +kernel
theorem dJ3_checkIndex_8e157_5 : decode cJ3_checkIndex_8e157 5 = .ok (.iload_n 1, 1) := by decide +kernel
theorem dJ3_checkIndex_8e157_6 : decode cJ3_checkIndex_8e157 6 = .ok (.if_icmp .lt 10, 3) := by decide +kernel
theorem dJ3_checkIndex_8e157_9 : decode cJ3_checkIndex_8e157 9 = .ok (.aload_n 2, 1) := by decide +kernel
theorem dJ3_checkIndex_8e157_10 : decode cJ3_checkIndex_8e157 10 = .ok (.iload_n 0, 1) := by decide +kernel
theorem dJ3_checkIndex_8e157_11 : decode cJ3_checkIndex_8e157 11 = .ok (.iload_n 1, 1) := by decide +kernel
theorem dJ3_checkIndex_8e157_12 : decode cJ3_checkIndex_8e157 12 = .ok (.invokestatic 95, 3) := by decide +kernel
theorem dJ3_checkIndex_8e157_15 : decode cJ3_checkIndex_8e157 15 = .ok (.athrow, 1) := by decide +kernel
theorem dJ3_checkIndex_8e157_16 : decode cJ3_checkIndex_8e157 16 = .ok (.iload_n 0, 1) := by decide +kernel
theorem dJ3_checkIndex_8e157_17 : decode cJ3_checkIndex_8e157 17 = .ok (.ireturn, 1) := by decide +kernel
end
section
/-! decode rows (printed by the kit's program) -/
theorem dX5_init_0 : decode cX5_init 0 = .ok (.aload_n 0, 1) := by decide +kernel
theorem dX5_init_1 : decode cX5_init 1 = .ok (.invokespecial 1, 3) := by decide +kernel
theorem dX5_init_4 : decode cX5_init 4 = .ok (.aload_n 0, 1) := by decide +kernel
theorem dX5_init_5 : decode cX5_init 5 = .ok (.new 7, 3) := by decide +kernel
theorem dX5_init_8 : decode cX5_init 8 = .ok (.dup, 1) := by decide +kernel
theorem dX5_init_9 : decode cX5_init 9 = .ok (.invokespecial 9, 3) := by decide +kernel
theorem dX5_init_12 : decode cX5_init 12 = .ok (.putfield 10, 3) := by decide +kernel
theorem dX5_init_15 : decode cX5_init 15 = .ok (.aload_n 0, 1) := by decide +kernel
theorem dX5_init_16 : decode cX5_init 16 = .ok (.new 7, 3) := by decide +kernel
theorem dX5_init_19 : decode cX5_init 19 = .ok (.dup, 1) := by decide +kernel
theorem dX5_init_20 : decode cX5_init 20 = .ok (.invokespecial 9, 3) := by decide +kernel
theorem dX5_init_23 : decode cX5_init 23 = .ok (.putfield 16, 3) := by decide +kernel
theorem dX5_init_26 : decode cX5_init 26 = .ok (.aload_n 0, 1) := by decide +kernel
theorem dX5_init_27 : decode cX5_init 27 = .ok (.new 19, 3) := by decide +kernel
theorem dX5_init_30 : decode cX5_init 30 = .ok (.dup, 1) := by decide +kernel
theorem dX5_init_31 : decode cX5_init 31 = .ok (.invokespecial 21, 3) := by decide +kernel
theorem dX5_init_34 : decode cX5_init 34 = .ok (.putfield 22, 3) := by decide +kernel
theorem dX5_init_37 : decode cX5_init 37 = .ok (.aload_n 0, 1) := by decide +kernel
theorem dX5_init_38 : decode cX5_init 38 = .ok (.new 26, 3) := by decide +kernel
theorem dX5_init_41 : decode cX5_init 41 = .ok (.dup, 1) := by decide +kernel
theorem dX5_init_42 : decode cX5_init 42 = .ok (.invokespecial 28, 3) := by decide +kernel
theorem dX5_init_45 : decode cX5_init 45 = .ok (.putfield 29, 3) := by decide +kernel
theorem dX5_init_48 : decode cX5_init 48 = .ok (.return_, 1) := by decide +kernel
theorem dX5_set_0 : decode cX5_set 0 = .ok (.iload_n 1, 1) := by decide +kernel
theorem dX5_set_1 : decode cX5_set 1 = .ok (.iconst 0, 1) := by decide +kernel
theorem dX5_set_2 : decode cX5_set 2 = .ok (.iconst 2, 1) := by decide +kernel
theorem dX5_set_3 : decode cX5_set 3 = .ok (.invokestatic 33, 3) := by decide +kernel
theorem dX5_set_6 : decode cX5_set 6 = .ok (.ifCond .eq 20, 3) := by decide +kernel
theorem dX5_set_9 : decode cX5_set 9 = .ok (.iload_n 2, 1) := by decide +kernel
theorem dX5_set_10 : decode cX5_set 10 = .ok (.getstatic 37, 3) := by decide +kernel
theorem dX5_set_13 : decode cX5_set 13 = .ok (.iload_n 1, 1) := by decide +kernel
theorem dX5_set_14 : decode cX5_set 14 = .ok (.iaload, 1) := by decide +kernel
theorem dX5_set_15 : decode cX5_set 15 = .ok (.getstatic 41, 3) := by decide +kernel
theorem dX5_set_18 : decode cX5_set 18 = .ok (.iload_n 1, 1) := by decide +kernel
theorem dX5_set_19 : decode cX5_set 19 = .ok (.iaload, 1) := by decide +kernel
theorem dX5_set_20 : decode cX5_set 20 = .ok (.invokestatic 33, 3) := by decide +kernel
theorem dX5_set_23 : decode cX5_set 23 = .ok (.ifCond .ne 6, 3) := by decide +kernel
theorem dX5_set_26 : decode cX5_set 26 = .ok (.ldc 44, 2) := by decide +kernel
theorem dX5_set_28 : decode cX5_set 28 = .ok (.ireturn, 1) := by decide +kernel
theorem dX5_set_29 : decode cX5_set 29 = .ok (.aload_n 0, 1) := by decide +kernel
theorem dX5_set_30 : decode cX5_set 30 = .ok (.getfield 22, 3) := by decide +kernel
theorem dX5_set_33 : decode cX5_set 33 = .ok (.aload_n 0, 1) := by decide +kernel
theorem dX5_set_34 : decode cX5_set 34 = .ok (.getfield 10, 3) := by decide +kernel
theorem dX5_set_37 : decode cX5_set 37 = .ok (.invokevirtual 45, 3) := by decide +kernel
theorem dX5_set_40 : decode cX5_set 40 = .ok (.aload_n 0, 1) := by decide +kernel
theorem dX5_set_41 : decode cX5_set 41 = .ok (.getfield 10, 3) := by decide +kernel
theorem dX5_set_44 : decode cX5_set 44 = .ok (.getfield 49, 3) := by decide +kernel
theorem dX5_set_47 : decode cX5_set 47 = .ok (.iload_n 1, 1) := by decide +kernel
theorem dX5_set_48 : decode cX5_set 48 = .ok (.iaload, 1) := by decide +kernel
theorem dX5_set_49 : decode cX5_set 49 = .ok (.istore_n 3, 1) := by decide +kernel
theorem dX5_set_50 : decode cX5_set 50 = .ok (.aload_n 0, 1) := by decide +kernel
theorem dX5_set_51 : decode cX5_set 51 = .ok (.getfield 10, 3) := by decide +kernel
theorem dX5_set_54 : decode cX5_set 54 = .ok (.getfield 49, 3) := by decide +kernel
theorem dX5_set_57 : decode cX5_set 57 = .ok (.iload_n 1, 1) := by decide +kernel
theorem dX5_set_58 : decode cX5_set 58 = .ok (.iload_n 2, 1) := by decide +kernel
theorem dX5_set_59 : decode cX5_set 59 = .ok (.iastore, 1) := by decide +kernel
theorem dX5_set_60 : decode cX5_set 60 = .ok (.iload_n 3, 1) := by decide +kernel
theorem dX5_set_61 : decode cX5_set 61 = .ok (.ireturn, 1) := by decide +kernel
theorem dX5_oracle_0 : decode cX5_oracle 0 = .ok (.iload_n 1, 1) := by decide +kernel
theorem dX5_oracle_1 : decode cX5_oracle 1 = .ok (.iconst 0, 1) := by decide +kernel
theorem dX5_oracle_2 : decode cX5_oracle 2 = .ok (.iconst 4, 1) := by decide +kernel
theorem dX5_oracle_3 : decode cX5_oracle 3 = .ok (.invokestatic 33, 3) := by decide +kernel
theorem dX5_oracle_6 : decode cX5_oracle 6 = .ok (.ifCond .eq 26, 3) := by decide +kernel
theorem dX5_oracle_9 : decode cX5_oracle 9 = .ok (.iload_n 2, 1) := by decide +kernel
theorem dX5_oracle_10 : decode cX5_oracle 10 = .ok (.iconst 0, 1) := by decide +kernel
theorem dX5_oracle_11 : decode cX5_oracle 11 = .ok (.iload_n 1, 1) := by decide +kernel
theorem dX5_oracle_12 : decode cX5_oracle 12 = .ok (.invokestatic 52, 3) := by decide +kernel
theorem dX5_oracle_15 : decode cX5_oracle 15 = .ok (.invokestatic 33, 3) := by decide +kernel
theorem dX5_oracle_18 : decode cX5_oracle 18 = .ok (.ifCond .eq 14, 3) := by decide +kernel
theorem dX5_oracle_21 : decode cX5_oracle 21 = .ok (.iload_n 3, 1) := by decide +kernel
theorem dX5_oracle_22 : decode cX5_oracle 22 = .ok (.iconst 0, 1) := by decide +kernel
theorem dX5_oracle_23 : decode cX5_oracle 23 = .ok (.sipush 9999, 3) := by decide +kernel
theorem dX5_oracle_26 : decode cX5_oracle 26 = .ok (.invokestatic 33, 3) := by decide +kernel
theorem dX5_oracle_29 : decode cX5_oracle 29 = .ok (.ifCond .ne 6, 3) := by decide +kernel
theorem dX5_oracle_32 : decode cX5_oracle 32 = .ok (.ldc 44, 2) := by decide +kernel
theorem dX5_oracle_34 : decode cX5_oracle 34 = .ok (.ireturn, 1) := by decide +kernel
theorem dX5_oracle_35 : decode cX5_oracle 35 = .ok (.aload_n 0, 1) := by decide +kernel
theorem dX5_oracle_36 : decode cX5_oracle 36 = .ok (.getfield 10, 3) := by decide +kernel
theorem dX5_oracle_39 : decode cX5_oracle 39 = .ok (.getfield 56, 3) := by decide +kernel
theorem dX5_oracle_42 : decode cX5_oracle 42 = .ok (.bipush 6, 2) := by decide +kernel
theorem dX5_oracle_44 : decode cX5_oracle 44 = .ok (.if_icmp .lt 6, 3) := by decide +kernel
theorem dX5_oracle_47 : decode cX5_oracle 47 = .ok (.ldc 60, 2) := by decide +kernel
theorem dX5_oracle_49 : decode cX5_oracle 49 = .ok (.ireturn, 1) := by decide +kernel
theorem dX5_oracle_50 : decode cX5_oracle 50 = .ok (.aload_n 0, 1) := by decide +kernel
theorem dX5_oracle_51 : decode cX5_oracle 51 = .ok (.getfield 22, 3) := by decide +kernel
theorem dX5_oracle_54 : decode cX5_oracle 54 = .ok (.aload_n 0, 1) := by decide +kernel
theorem dX5_oracle_55 : decode cX5_oracle 55 = .ok (.getfield 10, 3) := by decide +kernel
theorem dX5_oracle_58 : decode cX5_oracle 58 = .ok (.invokevirtual 45, 3) := by decide +kernel
theorem dX5_oracle_61 : decode cX5_oracle 61 = .ok (.aload_n 0, 1) := by decide +kernel
theorem dX5_oracle_62 : decode cX5_oracle 62 = .ok (.getfield 10, 3) := by decide +kernel
theorem dX5_oracle_65 : decode cX5_oracle 65 = .ok (.getfield 56, 3) := by decide +kernel
theorem dX5_oracle_68 : decode cX5_oracle 68 = .ok (.istore 4, 2) := by decide +kernel
theorem dX5_oracle_70 : decode cX5_oracle 70 = .ok (.aload_n 0, 1) := by decide +kernel
theorem dX5_oracle_71 : decode cX5_oracle 71 = .ok (.getfield 10, 3) := by decide +kernel
theorem dX5_oracle_74 : decode cX5_oracle 74 = .ok (.getfield 61, 3) := by decide +kernel
theorem dX5_oracle_77 : decode cX5_oracle 77 = .ok (.iload 4, 2) := by decide +kernel
theorem dX5_oracle_79 : decode cX5_oracle 79 = .ok (.aaload, 1) := by decide +kernel
theorem dX5_oracle_80 : decode cX5_oracle 80 = .ok (.iload_n 1, 1) := by decide +kernel
theorem dX5_oracle_81 : decode cX5_oracle 81 = .ok (.iload_n 2, 1) := by decide +kernel
theorem dX5_oracle_82 : decode cX5_oracle 82 = .ok (.iload_n 3, 1) := by decide +kernel
theorem dX5_oracle_83 : decode cX5_oracle 83 = .ok (.invokevirtual 65, 3) := by decide +kernel
theorem dX5_oracle_86 : decode cX5_oracle 86 = .ok (.aload_n 0, 1) := by decide +kernel
theorem dX5_oracle_87 : decode cX5_oracle 87 = .ok (.getfield 10, 3) := by decide +kernel
theorem dX5_oracle_90 : decode cX5_oracle 90 = .ok (.iload 4, 2) := by decide +kernel
theorem dX5_oracle_92 : decode cX5_oracle 92 = .ok (.iconst 1, 1) := by decide +kernel
theorem dX5_oracle_93 : decode cX5_oracle 93 = .ok (.iadd, 1) := by decide +kernel
theorem dX5_oracle_94 : decode cX5_oracle 94 = .ok (.putfield 56, 3) := by decide +kernel
theorem dX5_oracle_97 : decode cX5_oracle 97 = .ok (.iload 4, 2) := by decide +kernel
theorem dX5_oracle_99 : decode cX5_oracle 99 = .ok (.ireturn, 1) := by decide +kernel
theorem dX5_seat_0 : decode cX5_seat 0 = .ok (.aload_n 0, 1) := by decide +kernel
theorem dX5_seat_1 : decode cX5_seat 1 = .ok (.iload_n 1, 1) := by decide +kernel
theorem dX5_seat_2 : decode cX5_seat 2 = .ok (.invokevirtual 71, 3) := by decide +kernel
theorem dX5_seat_5 : decode cX5_seat 5 = .ok (.ifCond .eq 12, 3) := by decide +kernel
theorem dX5_seat_8 : decode cX5_seat 8 = .ok (.iload_n 2, 1) := by decide +kernel
theorem dX5_seat_9 : decode cX5_seat 9 = .ok (.iconst 0, 1) := by decide +kernel
theorem dX5_seat_10 : decode cX5_seat 10 = .ok (.iconst 2, 1) := by decide +kernel
theorem dX5_seat_11 : decode cX5_seat 11 = .ok (.invokestatic 33, 3) := by decide +kernel
theorem dX5_seat_14 : decode cX5_seat 14 = .ok (.ifCond .ne 6, 3) := by decide +kernel
theorem dX5_seat_17 : decode cX5_seat 17 = .ok (.ldc 44, 2) := by decide +kernel
theorem dX5_seat_19 : decode cX5_seat 19 = .ok (.ireturn, 1) := by decide +kernel
theorem dX5_seat_20 : decode cX5_seat 20 = .ok (.aload_n 0, 1) := by decide +kernel
theorem dX5_seat_21 : decode cX5_seat 21 = .ok (.getfield 10, 3) := by decide +kernel
theorem dX5_seat_24 : decode cX5_seat 24 = .ok (.getfield 61, 3) := by decide +kernel
theorem dX5_seat_27 : decode cX5_seat 27 = .ok (.iload_n 1, 1) := by decide +kernel
theorem dX5_seat_28 : decode cX5_seat 28 = .ok (.aaload, 1) := by decide +kernel
theorem dX5_seat_29 : decode cX5_seat 29 = .ok (.astore_n 3, 1) := by decide +kernel
theorem dX5_seat_30 : decode cX5_seat 30 = .ok (.aload_n 3, 1) := by decide +kernel
theorem dX5_seat_31 : decode cX5_seat 31 = .ok (.invokevirtual 75, 3) := by decide +kernel
theorem dX5_seat_34 : decode cX5_seat 34 = .ok (.ifCond .ne 11, 3) := by decide +kernel
theorem dX5_seat_37 : decode cX5_seat 37 = .ok (.iload_n 2, 1) := by decide +kernel
theorem dX5_seat_38 : decode cX5_seat 38 = .ok (.aload_n 3, 1) := by decide +kernel
theorem dX5_seat_39 : decode cX5_seat 39 = .ok (.invokestatic 79, 3) := by decide +kernel
theorem dX5_seat_42 : decode cX5_seat 42 = .ok (.ifCond .ne 6, 3) := by decide +kernel
theorem dX5_seat_45 : decode cX5_seat 45 = .ok (.ldc 83, 2) := by decide +kernel
theorem dX5_seat_47 : decode cX5_seat 47 = .ok (.ireturn, 1) := by decide +kernel
theorem dX5_seat_48 : decode cX5_seat 48 = .ok (.aload_n 0, 1) := by decide +kernel
theorem dX5_seat_49 : decode cX5_seat 49 = .ok (.getfield 10, 3) := by decide +kernel
theorem dX5_seat_52 : decode cX5_seat 52 = .ok (.iload_n 2, 1) := by decide +kernel
theorem dX5_seat_53 : decode cX5_seat 53 = .ok (.invokevirtual 84, 3) := by decide +kernel
theorem dX5_seat_56 : decode cX5_seat 56 = .ok (.istore 4, 2) := by decide +kernel
theorem dX5_seat_58 : decode cX5_seat 58 = .ok (.iload 4, 2) := by decide +kernel
theorem dX5_seat_60 : decode cX5_seat 60 = .ok (.iconst (-1), 1) := by decide +kernel
theorem dX5_seat_61 : decode cX5_seat 61 = .ok (.if_icmp .ne 6, 3) := by decide +kernel
theorem dX5_seat_64 : decode cX5_seat 64 = .ok (.ldc 60, 2) := by decide +kernel
theorem dX5_seat_66 : decode cX5_seat 66 = .ok (.ireturn, 1) := by decide +kernel
theorem dX5_seat_67 : decode cX5_seat 67 = .ok (.aload_n 0, 1) := by decide +kernel
theorem dX5_seat_68 : decode cX5_seat 68 = .ok (.getfield 22, 3) := by decide +kernel
theorem dX5_seat_71 : decode cX5_seat 71 = .ok (.aload_n 0, 1) := by decide +kernel
theorem dX5_seat_72 : decode cX5_seat 72 = .ok (.getfield 10, 3) := by decide +kernel
theorem dX5_seat_75 : decode cX5_seat 75 = .ok (.invokevirtual 45, 3) := by decide +kernel
theorem dX5_seat_78 : decode cX5_seat 78 = .ok (.aload_n 3, 1) := by decide +kernel
theorem dX5_seat_79 : decode cX5_seat 79 = .ok (.iload_n 2, 1) := by decide +kernel
theorem dX5_seat_80 : decode cX5_seat 80 = .ok (.putfield 87, 3) := by decide +kernel
theorem dX5_seat_83 : decode cX5_seat 83 = .ok (.aload_n 3, 1) := by decide +kernel
theorem dX5_seat_84 : decode cX5_seat 84 = .ok (.iload 4, 2) := by decide +kernel
theorem dX5_seat_86 : decode cX5_seat 86 = .ok (.putfield 90, 3) := by decide +kernel
theorem dX5_seat_89 : decode cX5_seat 89 = .ok (.aload_n 0, 1) := by decide +kernel
theorem dX5_seat_90 : decode cX5_seat 90 = .ok (.getfield 10, 3) := by decide +kernel
theorem dX5_seat_93 : decode cX5_seat 93 = .ok (.iload_n 2, 1) := by decide +kernel
theorem dX5_seat_94 : decode cX5_seat 94 = .ok (.invokevirtual 93, 3) := by decide +kernel
theorem dX5_seat_97 : decode cX5_seat 97 = .ok (.ireturn, 1) := by decide +kernel
theorem dX5_stand_0 : decode cX5_stand 0 = .ok (.aload_n 0, 1) := by decide +kernel
theorem dX5_stand_1 : decode cX5_stand 1 = .ok (.iload_n 1, 1) := by decide +kernel
theorem dX5_stand_2 : decode cX5_stand 2 = .ok (.invokevirtual 71, 3) := by decide +kernel
theorem dX5_stand_5 : decode cX5_stand 5 = .ok (.ifCond .ne 6, 3) := by decide +kernel
theorem dX5_stand_8 : decode cX5_stand 8 = .ok (.ldc 44, 2) := by decide +kernel
theorem dX5_stand_10 : decode cX5_stand 10 = .ok (.ireturn, 1) := by decide +kernel
theorem dX5_stand_11 : decode cX5_stand 11 = .ok (.aload_n 0, 1) := by decide +kernel
theorem dX5_stand_12 : decode cX5_stand 12 = .ok (.getfield 10, 3) := by decide +kernel
theorem dX5_stand_15 : decode cX5_stand 15 = .ok (.getfield 61, 3) := by decide +kernel
theorem dX5_stand_18 : decode cX5_stand 18 = .ok (.iload_n 1, 1) := by decide +kernel
theorem dX5_stand_19 : decode cX5_stand 19 = .ok (.aaload, 1) := by decide +kernel
theorem dX5_stand_20 : decode cX5_stand 20 = .ok (.astore_n 2, 1) := by decide +kernel
theorem dX5_stand_21 : decode cX5_stand 21 = .ok (.aload_n 2, 1) := by decide +kernel
theorem dX5_stand_22 : decode cX5_stand 22 = .ok (.invokevirtual 75, 3) := by decide +kernel
theorem dX5_stand_25 : decode cX5_stand 25 = .ok (.ifCond .ne 6, 3) := by decide +kernel
theorem dX5_stand_28 : decode cX5_stand 28 = .ok (.ldc 83, 2) := by decide +kernel
theorem dX5_stand_30 : decode cX5_stand 30 = .ok (.ireturn, 1) := by decide +kernel
theorem dX5_stand_31 : decode cX5_stand 31 = .ok (.aload_n 0, 1) := by decide +kernel
theorem dX5_stand_32 : decode cX5_stand 32 = .ok (.getfield 22, 3) := by decide +kernel
theorem dX5_stand_35 : decode cX5_stand 35 = .ok (.aload_n 0, 1) := by decide +kernel
theorem dX5_stand_36 : decode cX5_stand 36 = .ok (.getfield 10, 3) := by decide +kernel
theorem dX5_stand_39 : decode cX5_stand 39 = .ok (.invokevirtual 45, 3) := by decide +kernel
theorem dX5_stand_42 : decode cX5_stand 42 = .ok (.aload_n 2, 1) := by decide +kernel
theorem dX5_stand_43 : decode cX5_stand 43 = .ok (.getfield 87, 3) := by decide +kernel
theorem dX5_stand_46 : decode cX5_stand 46 = .ok (.istore_n 3, 1) := by decide +kernel
theorem dX5_stand_47 : decode cX5_stand 47 = .ok (.aload_n 2, 1) := by decide +kernel
theorem dX5_stand_48 : decode cX5_stand 48 = .ok (.iconst (-1), 1) := by decide +kernel
theorem dX5_stand_49 : decode cX5_stand 49 = .ok (.putfield 87, 3) := by decide +kernel
theorem dX5_stand_52 : decode cX5_stand 52 = .ok (.aload_n 2, 1) := by decide +kernel
theorem dX5_stand_53 : decode cX5_stand 53 = .ok (.iconst (-1), 1) := by decide +kernel
theorem dX5_stand_54 : decode cX5_stand 54 = .ok (.putfield 90, 3) := by decide +kernel
theorem dX5_stand_57 : decode cX5_stand 57 = .ok (.iload_n 3, 1) := by decide +kernel
theorem dX5_stand_58 : decode cX5_stand 58 = .ok (.ireturn, 1) := by decide +kernel
theorem dX5_give_0 : decode cX5_give 0 = .ok (.aload_n 0, 1) := by decide +kernel
theorem dX5_give_1 : decode cX5_give 1 = .ok (.iload_n 1, 1) := by decide +kernel
theorem dX5_give_2 : decode cX5_give 2 = .ok (.invokevirtual 71, 3) := by decide +kernel
theorem dX5_give_5 : decode cX5_give 5 = .ok (.ifCond .eq 14, 3) := by decide +kernel
theorem dX5_give_8 : decode cX5_give 8 = .ok (.iload_n 2, 1) := by decide +kernel
theorem dX5_give_9 : decode cX5_give 9 = .ok (.iconst 1, 1) := by decide +kernel
theorem dX5_give_10 : decode cX5_give 10 = .ok (.sipush 9999, 3) := by decide +kernel
theorem dX5_give_13 : decode cX5_give 13 = .ok (.invokestatic 33, 3) := by decide +kernel
theorem dX5_give_16 : decode cX5_give 16 = .ok (.ifCond .ne 6, 3) := by decide +kernel
theorem dX5_give_19 : decode cX5_give 19 = .ok (.ldc 44, 2) := by decide +kernel
theorem dX5_give_21 : decode cX5_give 21 = .ok (.ireturn, 1) := by decide +kernel
theorem dX5_give_22 : decode cX5_give 22 = .ok (.aload_n 0, 1) := by decide +kernel
theorem dX5_give_23 : decode cX5_give 23 = .ok (.getfield 10, 3) := by decide +kernel
theorem dX5_give_26 : decode cX5_give 26 = .ok (.getfield 61, 3) := by decide +kernel
theorem dX5_give_29 : decode cX5_give 29 = .ok (.iload_n 1, 1) := by decide +kernel
theorem dX5_give_30 : decode cX5_give 30 = .ok (.aaload, 1) := by decide +kernel
theorem dX5_give_31 : decode cX5_give 31 = .ok (.astore_n 3, 1) := by decide +kernel
theorem dX5_give_32 : decode cX5_give 32 = .ok (.aload_n 3, 1) := by decide +kernel
theorem dX5_give_33 : decode cX5_give 33 = .ok (.getfield 96, 3) := by decide +kernel
theorem dX5_give_36 : decode cX5_give 36 = .ok (.iload_n 2, 1) := by decide +kernel
theorem dX5_give_37 : decode cX5_give 37 = .ok (.iadd, 1) := by decide +kernel
theorem dX5_give_38 : decode cX5_give 38 = .ok (.ldc 99, 2) := by decide +kernel
theorem dX5_give_40 : decode cX5_give 40 = .ok (.if_icmp .le 6, 3) := by decide +kernel
theorem dX5_give_43 : decode cX5_give 43 = .ok (.ldc 60, 2) := by decide +kernel
theorem dX5_give_45 : decode cX5_give 45 = .ok (.ireturn, 1) := by decide +kernel
theorem dX5_give_46 : decode cX5_give 46 = .ok (.aload_n 0, 1) := by decide +kernel
theorem dX5_give_47 : decode cX5_give 47 = .ok (.getfield 22, 3) := by decide +kernel
theorem dX5_give_50 : decode cX5_give 50 = .ok (.aload_n 0, 1) := by decide +kernel
theorem dX5_give_51 : decode cX5_give 51 = .ok (.getfield 10, 3) := by decide +kernel
theorem dX5_give_54 : decode cX5_give 54 = .ok (.invokevirtual 45, 3) := by decide +kernel
theorem dX5_give_57 : decode cX5_give 57 = .ok (.aload_n 3, 1) := by decide +kernel
theorem dX5_give_58 : decode cX5_give 58 = .ok (.dup, 1) := by decide +kernel
theorem dX5_give_59 : decode cX5_give 59 = .ok (.getfield 96, 3) := by decide +kernel
theorem dX5_give_62 : decode cX5_give 62 = .ok (.iload_n 2, 1) := by decide +kernel
theorem dX5_give_63 : decode cX5_give 63 = .ok (.iadd, 1) := by decide +kernel
theorem dX5_give_64 : decode cX5_give 64 = .ok (.putfield 96, 3) := by decide +kernel
theorem dX5_give_67 : decode cX5_give 67 = .ok (.aload_n 3, 1) := by decide +kernel
theorem dX5_give_68 : decode cX5_give 68 = .ok (.getfield 96, 3) := by decide +kernel
theorem dX5_give_71 : decode cX5_give 71 = .ok (.ireturn, 1) := by decide +kernel
theorem dX5_lend_0 : decode cX5_lend 0 = .ok (.aload_n 0, 1) := by decide +kernel
theorem dX5_lend_1 : decode cX5_lend 1 = .ok (.iload_n 1, 1) := by decide +kernel
theorem dX5_lend_2 : decode cX5_lend 2 = .ok (.invokevirtual 71, 3) := by decide +kernel
theorem dX5_lend_5 : decode cX5_lend 5 = .ok (.ifCond .eq 27, 3) := by decide +kernel
theorem dX5_lend_8 : decode cX5_lend 8 = .ok (.aload_n 0, 1) := by decide +kernel
theorem dX5_lend_9 : decode cX5_lend 9 = .ok (.iload_n 2, 1) := by decide +kernel
theorem dX5_lend_10 : decode cX5_lend 10 = .ok (.invokevirtual 71, 3) := by decide +kernel
theorem dX5_lend_13 : decode cX5_lend 13 = .ok (.ifCond .eq 19, 3) := by decide +kernel
theorem dX5_lend_16 : decode cX5_lend 16 = .ok (.iload_n 1, 1) := by decide +kernel
theorem dX5_lend_17 : decode cX5_lend 17 = .ok (.iload_n 2, 1) := by decide +kernel
theorem dX5_lend_18 : decode cX5_lend 18 = .ok (.if_icmp .eq 14, 3) := by decide +kernel
theorem dX5_lend_21 : decode cX5_lend 21 = .ok (.iload_n 3, 1) := by decide +kernel
theorem dX5_lend_22 : decode cX5_lend 22 = .ok (.iconst 1, 1) := by decide +kernel
theorem dX5_lend_23 : decode cX5_lend 23 = .ok (.sipush 9999, 3) := by decide +kernel
theorem dX5_lend_26 : decode cX5_lend 26 = .ok (.invokestatic 33, 3) := by decide +kernel
theorem dX5_lend_29 : decode cX5_lend 29 = .ok (.ifCond .ne 6, 3) := by decide +kernel
theorem dX5_lend_32 : decode cX5_lend 32 = .ok (.ldc 44, 2) := by decide +kernel
theorem dX5_lend_34 : decode cX5_lend 34 = .ok (.ireturn, 1) := by decide +kernel
theorem dX5_lend_35 : decode cX5_lend 35 = .ok (.aload_n 0, 1) := by decide +kernel
theorem dX5_lend_36 : decode cX5_lend 36 = .ok (.getfield 10, 3) := by decide +kernel
theorem dX5_lend_39 : decode cX5_lend 39 = .ok (.getfield 61, 3) := by decide +kernel
theorem dX5_lend_42 : decode cX5_lend 42 = .ok (.iload_n 1, 1) := by decide +kernel
theorem dX5_lend_43 : decode cX5_lend 43 = .ok (.aaload, 1) := by decide +kernel
theorem dX5_lend_44 : decode cX5_lend 44 = .ok (.getfield 96, 3) := by decide +kernel
theorem dX5_lend_47 : decode cX5_lend 47 = .ok (.iload_n 3, 1) := by decide +kernel
theorem dX5_lend_48 : decode cX5_lend 48 = .ok (.if_icmp .ge 6, 3) := by decide +kernel
theorem dX5_lend_51 : decode cX5_lend 51 = .ok (.ldc 83, 2) := by decide +kernel
theorem dX5_lend_53 : decode cX5_lend 53 = .ok (.ireturn, 1) := by decide +kernel
theorem dX5_lend_54 : decode cX5_lend 54 = .ok (.aload_n 0, 1) := by decide +kernel
theorem dX5_lend_55 : decode cX5_lend 55 = .ok (.getfield 10, 3) := by decide +kernel
theorem dX5_lend_58 : decode cX5_lend 58 = .ok (.getfield 100, 3) := by decide +kernel
theorem dX5_lend_61 : decode cX5_lend 61 = .ok (.bipush 8, 2) := by decide +kernel
theorem dX5_lend_63 : decode cX5_lend 63 = .ok (.if_icmp .lt 6, 3) := by decide +kernel
theorem dX5_lend_66 : decode cX5_lend 66 = .ok (.ldc 60, 2) := by decide +kernel
theorem dX5_lend_68 : decode cX5_lend 68 = .ok (.ireturn, 1) := by decide +kernel
theorem dX5_lend_69 : decode cX5_lend 69 = .ok (.aload_n 0, 1) := by decide +kernel
theorem dX5_lend_70 : decode cX5_lend 70 = .ok (.getfield 22, 3) := by decide +kernel
theorem dX5_lend_73 : decode cX5_lend 73 = .ok (.aload_n 0, 1) := by decide +kernel
theorem dX5_lend_74 : decode cX5_lend 74 = .ok (.getfield 10, 3) := by decide +kernel
theorem dX5_lend_77 : decode cX5_lend 77 = .ok (.invokevirtual 45, 3) := by decide +kernel
theorem dX5_lend_80 : decode cX5_lend 80 = .ok (.aload_n 0, 1) := by decide +kernel
theorem dX5_lend_81 : decode cX5_lend 81 = .ok (.getfield 10, 3) := by decide +kernel
theorem dX5_lend_84 : decode cX5_lend 84 = .ok (.iload_n 1, 1) := by decide +kernel
theorem dX5_lend_85 : decode cX5_lend 85 = .ok (.iload_n 2, 1) := by decide +kernel
theorem dX5_lend_86 : decode cX5_lend 86 = .ok (.iload_n 3, 1) := by decide +kernel
theorem dX5_lend_87 : decode cX5_lend 87 = .ok (.invokevirtual 103, 3) := by decide +kernel
theorem dX5_lend_90 : decode cX5_lend 90 = .ok (.ireturn, 1) := by decide +kernel
theorem dX5_branch_0 : decode cX5_branch 0 = .ok (.iload_n 1, 1) := by decide +kernel
theorem dX5_branch_1 : decode cX5_branch 1 = .ok (.invokestatic 107, 3) := by decide +kernel
theorem dX5_branch_4 : decode cX5_branch 4 = .ok (.ifCond .eq 12, 3) := by decide +kernel
theorem dX5_branch_7 : decode cX5_branch 7 = .ok (.iload_n 2, 1) := by decide +kernel
theorem dX5_branch_8 : decode cX5_branch 8 = .ok (.iconst 0, 1) := by decide +kernel
theorem dX5_branch_9 : decode cX5_branch 9 = .ok (.iconst 1, 1) := by decide +kernel
theorem dX5_branch_10 : decode cX5_branch 10 = .ok (.invokestatic 33, 3) := by decide +kernel
theorem dX5_branch_13 : decode cX5_branch 13 = .ok (.ifCond .ne 6, 3) := by decide +kernel
theorem dX5_branch_16 : decode cX5_branch 16 = .ok (.ldc 44, 2) := by decide +kernel
theorem dX5_branch_18 : decode cX5_branch 18 = .ok (.ireturn, 1) := by decide +kernel
theorem dX5_branch_19 : decode cX5_branch 19 = .ok (.aload_n 0, 1) := by decide +kernel
theorem dX5_branch_20 : decode cX5_branch 20 = .ok (.getfield 22, 3) := by decide +kernel
theorem dX5_branch_23 : decode cX5_branch 23 = .ok (.aload_n 0, 1) := by decide +kernel
theorem dX5_branch_24 : decode cX5_branch 24 = .ok (.getfield 10, 3) := by decide +kernel
theorem dX5_branch_27 : decode cX5_branch 27 = .ok (.invokevirtual 45, 3) := by decide +kernel
theorem dX5_branch_30 : decode cX5_branch 30 = .ok (.aload_n 0, 1) := by decide +kernel
theorem dX5_branch_31 : decode cX5_branch 31 = .ok (.getfield 10, 3) := by decide +kernel
theorem dX5_branch_34 : decode cX5_branch 34 = .ok (.iload_n 1, 1) := by decide +kernel
theorem dX5_branch_35 : decode cX5_branch 35 = .ok (.iload_n 2, 1) := by decide +kernel
theorem dX5_branch_36 : decode cX5_branch 36 = .ok (.invokevirtual 110, 3) := by decide +kernel
theorem dX5_branch_39 : decode cX5_branch 39 = .ok (.ireturn, 1) := by decide +kernel
theorem dX5_oracleOf_0 : decode cX5_oracleOf 0 = .ok (.aload_n 0, 1) := by decide +kernel
theorem dX5_oracleOf_1 : decode cX5_oracleOf 1 = .ok (.iload_n 1, 1) := by decide +kernel
theorem dX5_oracleOf_2 : decode cX5_oracleOf 2 = .ok (.invokevirtual 71, 3) := by decide +kernel
theorem dX5_oracleOf_5 : decode cX5_oracleOf 5 = .ok (.ifCond .eq 13, 3) := by decide +kernel
theorem dX5_oracleOf_8 : decode cX5_oracleOf 8 = .ok (.iload_n 2, 1) := by decide +kernel
theorem dX5_oracleOf_9 : decode cX5_oracleOf 9 = .ok (.iconst 0, 1) := by decide +kernel
theorem dX5_oracleOf_10 : decode cX5_oracleOf 10 = .ok (.bipush 10, 2) := by decide +kernel
theorem dX5_oracleOf_12 : decode cX5_oracleOf 12 = .ok (.invokestatic 33, 3) := by decide +kernel
theorem dX5_oracleOf_15 : decode cX5_oracleOf 15 = .ok (.ifCond .ne 6, 3) := by decide +kernel
theorem dX5_oracleOf_18 : decode cX5_oracleOf 18 = .ok (.ldc 44, 2) := by decide +kernel
theorem dX5_oracleOf_20 : decode cX5_oracleOf 20 = .ok (.ireturn, 1) := by decide +kernel
theorem dX5_oracleOf_21 : decode cX5_oracleOf 21 = .ok (.aload_n 0, 1) := by decide +kernel
theorem dX5_oracleOf_22 : decode cX5_oracleOf 22 = .ok (.getfield 10, 3) := by decide +kernel
theorem dX5_oracleOf_25 : decode cX5_oracleOf 25 = .ok (.getfield 61, 3) := by decide +kernel
theorem dX5_oracleOf_28 : decode cX5_oracleOf 28 = .ok (.iload_n 1, 1) := by decide +kernel
theorem dX5_oracleOf_29 : decode cX5_oracleOf 29 = .ok (.aaload, 1) := by decide +kernel
theorem dX5_oracleOf_30 : decode cX5_oracleOf 30 = .ok (.astore_n 3, 1) := by decide +kernel
theorem dX5_oracleOf_31 : decode cX5_oracleOf 31 = .ok (.iload_n 2, 1) := by decide +kernel
theorem dX5_oracleOf_32 : decode cX5_oracleOf 32 = .ok (.tableswitch 134 0 9 #[56, 61, 66, 71, 88, 105, 110, 115, 120, 125], 56) := by decide +kernel
theorem dX5_oracleOf_88 : decode cX5_oracleOf 88 = .ok (.aload_n 3, 1) := by decide +kernel
theorem dX5_oracleOf_89 : decode cX5_oracleOf 89 = .ok (.getfield 114, 3) := by decide +kernel
theorem dX5_oracleOf_92 : decode cX5_oracleOf 92 = .ok (.ireturn, 1) := by decide +kernel
theorem dX5_oracleOf_93 : decode cX5_oracleOf 93 = .ok (.aload_n 3, 1) := by decide +kernel
theorem dX5_oracleOf_94 : decode cX5_oracleOf 94 = .ok (.getfield 117, 3) := by decide +kernel
theorem dX5_oracleOf_97 : decode cX5_oracleOf 97 = .ok (.ireturn, 1) := by decide +kernel
theorem dX5_oracleOf_98 : decode cX5_oracleOf 98 = .ok (.aload_n 3, 1) := by decide +kernel
theorem dX5_oracleOf_99 : decode cX5_oracleOf 99 = .ok (.getfield 96, 3) := by decide +kernel
theorem dX5_oracleOf_102 : decode cX5_oracleOf 102 = .ok (.ireturn, 1) := by decide +kernel
theorem dX5_oracleOf_103 : decode cX5_oracleOf 103 = .ok (.aload_n 3, 1) := by decide +kernel
theorem dX5_oracleOf_104 : decode cX5_oracleOf 104 = .ok (.invokevirtual 75, 3) := by decide +kernel
theorem dX5_oracleOf_107 : decode cX5_oracleOf 107 = .ok (.ifCond .eq 10, 3) := by decide +kernel
theorem dX5_oracleOf_110 : decode cX5_oracleOf 110 = .ok (.aload_n 3, 1) := by decide +kernel
theorem dX5_oracleOf_111 : decode cX5_oracleOf 111 = .ok (.getfield 87, 3) := by decide +kernel
theorem dX5_oracleOf_114 : decode cX5_oracleOf 114 = .ok (.goto 5, 3) := by decide +kernel
theorem dX5_oracleOf_117 : decode cX5_oracleOf 117 = .ok (.ldc 120, 2) := by decide +kernel
theorem dX5_oracleOf_119 : decode cX5_oracleOf 119 = .ok (.ireturn, 1) := by decide +kernel
theorem dX5_oracleOf_120 : decode cX5_oracleOf 120 = .ok (.aload_n 3, 1) := by decide +kernel
theorem dX5_oracleOf_121 : decode cX5_oracleOf 121 = .ok (.invokevirtual 75, 3) := by decide +kernel
theorem dX5_oracleOf_124 : decode cX5_oracleOf 124 = .ok (.ifCond .eq 10, 3) := by decide +kernel
theorem dX5_oracleOf_127 : decode cX5_oracleOf 127 = .ok (.aload_n 3, 1) := by decide +kernel
theorem dX5_oracleOf_128 : decode cX5_oracleOf 128 = .ok (.getfield 90, 3) := by decide +kernel
theorem dX5_oracleOf_131 : decode cX5_oracleOf 131 = .ok (.goto 5, 3) := by decide +kernel
theorem dX5_oracleOf_134 : decode cX5_oracleOf 134 = .ok (.ldc 120, 2) := by decide +kernel
theorem dX5_oracleOf_136 : decode cX5_oracleOf 136 = .ok (.ireturn, 1) := by decide +kernel
theorem dX5_oracleOf_137 : decode cX5_oracleOf 137 = .ok (.aload_n 3, 1) := by decide +kernel
theorem dX5_oracleOf_138 : decode cX5_oracleOf 138 = .ok (.getfield 121, 3) := by decide +kernel
theorem dX5_oracleOf_141 : decode cX5_oracleOf 141 = .ok (.ireturn, 1) := by decide +kernel
theorem dX5_oracleOf_142 : decode cX5_oracleOf 142 = .ok (.aload_n 3, 1) := by decide +kernel
theorem dX5_oracleOf_143 : decode cX5_oracleOf 143 = .ok (.getfield 124, 3) := by decide +kernel
theorem dX5_oracleOf_146 : decode cX5_oracleOf 146 = .ok (.ireturn, 1) := by decide +kernel
theorem dX5_oracleOf_147 : decode cX5_oracleOf 147 = .ok (.aload_n 3, 1) := by decide +kernel
theorem dX5_oracleOf_148 : decode cX5_oracleOf 148 = .ok (.getfield 127, 3) := by decide +kernel
theorem dX5_oracleOf_151 : decode cX5_oracleOf 151 = .ok (.ireturn, 1) := by decide +kernel
theorem dX5_oracleOf_152 : decode cX5_oracleOf 152 = .ok (.aload_n 3, 1) := by decide +kernel
theorem dX5_oracleOf_153 : decode cX5_oracleOf 153 = .ok (.getfield 130, 3) := by decide +kernel
theorem dX5_oracleOf_156 : decode cX5_oracleOf 156 = .ok (.ireturn, 1) := by decide +kernel
theorem dX5_oracleOf_157 : decode cX5_oracleOf 157 = .ok (.aload_n 0, 1) := by decide +kernel
theorem dX5_oracleOf_158 : decode cX5_oracleOf 158 = .ok (.getfield 10, 3) := by decide +kernel
theorem dX5_oracleOf_161 : decode cX5_oracleOf 161 = .ok (.iload_n 1, 1) := by decide +kernel
theorem dX5_oracleOf_162 : decode cX5_oracleOf 162 = .ok (.invokevirtual 133, 3) := by decide +kernel
theorem dX5_oracleOf_165 : decode cX5_oracleOf 165 = .ok (.ireturn, 1) := by decide +kernel
theorem dX5_oracleOf_166 : decode cX5_oracleOf 166 = .ok (.aload_n 0, 1) := by decide +kernel
theorem dX5_oracleOf_167 : decode cX5_oracleOf 167 = .ok (.getfield 10, 3) := by decide +kernel
theorem dX5_oracleOf_170 : decode cX5_oracleOf 170 = .ok (.iload_n 1, 1) := by decide +kernel
theorem dX5_oracleOf_171 : decode cX5_oracleOf 171 = .ok (.invokevirtual 136, 3) := by decide +kernel
theorem dX5_oracleOf_174 : decode cX5_oracleOf 174 = .ok (.ireturn, 1) := by decide +kernel
theorem dX5_counter_0 : decode cX5_counter 0 = .ok (.aload_n 0, 1) := by decide +kernel
theorem dX5_counter_1 : decode cX5_counter 1 = .ok (.iload_n 1, 1) := by decide +kernel
theorem dX5_counter_2 : decode cX5_counter 2 = .ok (.invokevirtual 71, 3) := by decide +kernel
theorem dX5_counter_5 : decode cX5_counter 5 = .ok (.ifCond .eq 7, 3) := by decide +kernel
theorem dX5_counter_8 : decode cX5_counter 8 = .ok (.iload_n 2, 1) := by decide +kernel
theorem dX5_counter_9 : decode cX5_counter 9 = .ok (.ifCond .ge 6, 3) := by decide +kernel
theorem dX5_counter_12 : decode cX5_counter 12 = .ok (.ldc 44, 2) := by decide +kernel
theorem dX5_counter_14 : decode cX5_counter 14 = .ok (.ireturn, 1) := by decide +kernel
theorem dX5_counter_15 : decode cX5_counter 15 = .ok (.aload_n 0, 1) := by decide +kernel
theorem dX5_counter_16 : decode cX5_counter 16 = .ok (.getfield 10, 3) := by decide +kernel
theorem dX5_counter_19 : decode cX5_counter 19 = .ok (.getfield 61, 3) := by decide +kernel
theorem dX5_counter_22 : decode cX5_counter 22 = .ok (.iload_n 1, 1) := by decide +kernel
theorem dX5_counter_23 : decode cX5_counter 23 = .ok (.aaload, 1) := by decide +kernel
theorem dX5_counter_24 : decode cX5_counter 24 = .ok (.astore_n 3, 1) := by decide +kernel
theorem dX5_counter_25 : decode cX5_counter 25 = .ok (.iload_n 2, 1) := by decide +kernel
theorem dX5_counter_26 : decode cX5_counter 26 = .ok (.aload_n 3, 1) := by decide +kernel
theorem dX5_counter_27 : decode cX5_counter 27 = .ok (.invokevirtual 139, 3) := by decide +kernel
theorem dX5_counter_30 : decode cX5_counter 30 = .ok (.if_icmp .ge 12, 3) := by decide +kernel
theorem dX5_counter_33 : decode cX5_counter 33 = .ok (.aload_n 3, 1) := by decide +kernel
theorem dX5_counter_34 : decode cX5_counter 34 = .ok (.getfield 143, 3) := by decide +kernel
theorem dX5_counter_37 : decode cX5_counter 37 = .ok (.iload_n 2, 1) := by decide +kernel
theorem dX5_counter_38 : decode cX5_counter 38 = .ok (.iaload, 1) := by decide +kernel
theorem dX5_counter_39 : decode cX5_counter 39 = .ok (.goto 5, 3) := by decide +kernel
theorem dX5_counter_42 : decode cX5_counter 42 = .ok (.ldc 120, 2) := by decide +kernel
theorem dX5_counter_44 : decode cX5_counter 44 = .ok (.ireturn, 1) := by decide +kernel
theorem dX5_loanOf_0 : decode cX5_loanOf 0 = .ok (.iload_n 1, 1) := by decide +kernel
theorem dX5_loanOf_1 : decode cX5_loanOf 1 = .ok (.iconst 0, 1) := by decide +kernel
theorem dX5_loanOf_2 : decode cX5_loanOf 2 = .ok (.aload_n 0, 1) := by decide +kernel
theorem dX5_loanOf_3 : decode cX5_loanOf 3 = .ok (.getfield 10, 3) := by decide +kernel
theorem dX5_loanOf_6 : decode cX5_loanOf 6 = .ok (.getfield 100, 3) := by decide +kernel
theorem dX5_loanOf_9 : decode cX5_loanOf 9 = .ok (.iconst 1, 1) := by decide +kernel
theorem dX5_loanOf_10 : decode cX5_loanOf 10 = .ok (.isub, 1) := by decide +kernel
theorem dX5_loanOf_11 : decode cX5_loanOf 11 = .ok (.invokestatic 33, 3) := by decide +kernel
theorem dX5_loanOf_14 : decode cX5_loanOf 14 = .ok (.ifCond .eq 12, 3) := by decide +kernel
theorem dX5_loanOf_17 : decode cX5_loanOf 17 = .ok (.iload_n 2, 1) := by decide +kernel
theorem dX5_loanOf_18 : decode cX5_loanOf 18 = .ok (.iconst 0, 1) := by decide +kernel
theorem dX5_loanOf_19 : decode cX5_loanOf 19 = .ok (.iconst 2, 1) := by decide +kernel
theorem dX5_loanOf_20 : decode cX5_loanOf 20 = .ok (.invokestatic 33, 3) := by decide +kernel
theorem dX5_loanOf_23 : decode cX5_loanOf 23 = .ok (.ifCond .ne 6, 3) := by decide +kernel
theorem dX5_loanOf_26 : decode cX5_loanOf 26 = .ok (.ldc 44, 2) := by decide +kernel
theorem dX5_loanOf_28 : decode cX5_loanOf 28 = .ok (.ireturn, 1) := by decide +kernel
theorem dX5_loanOf_29 : decode cX5_loanOf 29 = .ok (.aload_n 0, 1) := by decide +kernel
theorem dX5_loanOf_30 : decode cX5_loanOf 30 = .ok (.getfield 10, 3) := by decide +kernel
theorem dX5_loanOf_33 : decode cX5_loanOf 33 = .ok (.getfield 146, 3) := by decide +kernel
theorem dX5_loanOf_36 : decode cX5_loanOf 36 = .ok (.iload_n 1, 1) := by decide +kernel
theorem dX5_loanOf_37 : decode cX5_loanOf 37 = .ok (.aaload, 1) := by decide +kernel
theorem dX5_loanOf_38 : decode cX5_loanOf 38 = .ok (.astore_n 3, 1) := by decide +kernel
theorem dX5_loanOf_39 : decode cX5_loanOf 39 = .ok (.iload_n 2, 1) := by decide +kernel
theorem dX5_loanOf_40 : decode cX5_loanOf 40 = .ok (.lookupswitch 38 #[(0, 28), (1, 33)], 28) := by decide +kernel
theorem dX5_loanOf_68 : decode cX5_loanOf 68 = .ok (.aload_n 3, 1) := by decide +kernel
theorem dX5_loanOf_69 : decode cX5_loanOf 69 = .ok (.getfield 150, 3) := by decide +kernel
theorem dX5_loanOf_72 : decode cX5_loanOf 72 = .ok (.ireturn, 1) := by decide +kernel
theorem dX5_loanOf_73 : decode cX5_loanOf 73 = .ok (.aload_n 3, 1) := by decide +kernel
theorem dX5_loanOf_74 : decode cX5_loanOf 74 = .ok (.getfield 155, 3) := by decide +kernel
theorem dX5_loanOf_77 : decode cX5_loanOf 77 = .ok (.ireturn, 1) := by decide +kernel
theorem dX5_loanOf_78 : decode cX5_loanOf 78 = .ok (.aload_n 3, 1) := by decide +kernel
theorem dX5_loanOf_79 : decode cX5_loanOf 79 = .ok (.getfield 158, 3) := by decide +kernel
theorem dX5_loanOf_82 : decode cX5_loanOf 82 = .ok (.ireturn, 1) := by decide +kernel
theorem dX5_aliases_0 : decode cX5_aliases 0 = .ok (.aload_n 0, 1) := by decide +kernel
theorem dX5_aliases_1 : decode cX5_aliases 1 = .ok (.iload_n 1, 1) := by decide +kernel
theorem dX5_aliases_2 : decode cX5_aliases 2 = .ok (.invokevirtual 71, 3) := by decide +kernel
theorem dX5_aliases_5 : decode cX5_aliases 5 = .ok (.ifCond .eq 10, 3) := by decide +kernel
theorem dX5_aliases_8 : decode cX5_aliases 8 = .ok (.iload_n 2, 1) := by decide +kernel
theorem dX5_aliases_9 : decode cX5_aliases 9 = .ok (.invokestatic 107, 3) := by decide +kernel
theorem dX5_aliases_12 : decode cX5_aliases 12 = .ok (.ifCond .ne 6, 3) := by decide +kernel
theorem dX5_aliases_15 : decode cX5_aliases 15 = .ok (.ldc 44, 2) := by decide +kernel
theorem dX5_aliases_17 : decode cX5_aliases 17 = .ok (.ireturn, 1) := by decide +kernel
theorem dX5_aliases_18 : decode cX5_aliases 18 = .ok (.aload_n 0, 1) := by decide +kernel
theorem dX5_aliases_19 : decode cX5_aliases 19 = .ok (.getfield 10, 3) := by decide +kernel
theorem dX5_aliases_22 : decode cX5_aliases 22 = .ok (.getfield 61, 3) := by decide +kernel
theorem dX5_aliases_25 : decode cX5_aliases 25 = .ok (.iload_n 1, 1) := by decide +kernel
theorem dX5_aliases_26 : decode cX5_aliases 26 = .ok (.aaload, 1) := by decide +kernel
theorem dX5_aliases_27 : decode cX5_aliases 27 = .ok (.astore_n 3, 1) := by decide +kernel
theorem dX5_aliases_28 : decode cX5_aliases 28 = .ok (.aload_n 3, 1) := by decide +kernel
theorem dX5_aliases_29 : decode cX5_aliases 29 = .ok (.invokevirtual 161, 3) := by decide +kernel
theorem dX5_aliases_32 : decode cX5_aliases 32 = .ok (.ifCond .ne 6, 3) := by decide +kernel
theorem dX5_aliases_35 : decode cX5_aliases 35 = .ok (.ldc 120, 2) := by decide +kernel
theorem dX5_aliases_37 : decode cX5_aliases 37 = .ok (.ireturn, 1) := by decide +kernel
theorem dX5_aliases_38 : decode cX5_aliases 38 = .ok (.aload_n 3, 1) := by decide +kernel
theorem dX5_aliases_39 : decode cX5_aliases 39 = .ok (.iload_n 2, 1) := by decide +kernel
theorem dX5_aliases_40 : decode cX5_aliases 40 = .ok (.aload_n 0, 1) := by decide +kernel
theorem dX5_aliases_41 : decode cX5_aliases 41 = .ok (.getfield 10, 3) := by decide +kernel
theorem dX5_aliases_44 : decode cX5_aliases 44 = .ok (.getfield 164, 3) := by decide +kernel
theorem dX5_aliases_47 : decode cX5_aliases 47 = .ok (.invokevirtual 167, 3) := by decide +kernel
theorem dX5_aliases_50 : decode cX5_aliases 50 = .ok (.istore 4, 2) := by decide +kernel
theorem dX5_aliases_52 : decode cX5_aliases 52 = .ok (.iconst 0, 1) := by decide +kernel
theorem dX5_aliases_53 : decode cX5_aliases 53 = .ok (.istore 5, 2) := by decide +kernel
theorem dX5_aliases_55 : decode cX5_aliases 55 = .ok (.iconst 0, 1) := by decide +kernel
theorem dX5_aliases_56 : decode cX5_aliases 56 = .ok (.istore 6, 2) := by decide +kernel
theorem dX5_aliases_58 : decode cX5_aliases 58 = .ok (.iload 6, 2) := by decide +kernel
theorem dX5_aliases_60 : decode cX5_aliases 60 = .ok (.bipush 64, 2) := by decide +kernel
theorem dX5_aliases_62 : decode cX5_aliases 62 = .ok (.if_icmp .ge 48, 3) := by decide +kernel
theorem dX5_aliases_65 : decode cX5_aliases 65 = .ok (.iload 6, 2) := by decide +kernel
theorem dX5_aliases_67 : decode cX5_aliases 67 = .ok (.iload_n 2, 1) := by decide +kernel
theorem dX5_aliases_68 : decode cX5_aliases 68 = .ok (.if_icmp .eq 36, 3) := by decide +kernel
theorem dX5_aliases_71 : decode cX5_aliases 71 = .ok (.aload_n 0, 1) := by decide +kernel
theorem dX5_aliases_72 : decode cX5_aliases 72 = .ok (.getfield 10, 3) := by decide +kernel
theorem dX5_aliases_75 : decode cX5_aliases 75 = .ok (.iload 6, 2) := by decide +kernel
theorem dX5_aliases_77 : decode cX5_aliases 77 = .ok (.invokevirtual 170, 3) := by decide +kernel
theorem dX5_aliases_80 : decode cX5_aliases 80 = .ok (.ifCond .eq 24, 3) := by decide +kernel
theorem dX5_aliases_83 : decode cX5_aliases 83 = .ok (.aload_n 3, 1) := by decide +kernel
theorem dX5_aliases_84 : decode cX5_aliases 84 = .ok (.iload 6, 2) := by decide +kernel
theorem dX5_aliases_86 : decode cX5_aliases 86 = .ok (.aload_n 0, 1) := by decide +kernel
theorem dX5_aliases_87 : decode cX5_aliases 87 = .ok (.getfield 10, 3) := by decide +kernel
theorem dX5_aliases_90 : decode cX5_aliases 90 = .ok (.getfield 164, 3) := by decide +kernel
theorem dX5_aliases_93 : decode cX5_aliases 93 = .ok (.invokevirtual 167, 3) := by decide +kernel
theorem dX5_aliases_96 : decode cX5_aliases 96 = .ok (.iload 4, 2) := by decide +kernel
theorem dX5_aliases_98 : decode cX5_aliases 98 = .ok (.if_icmp .ne 6, 3) := by decide +kernel
theorem dX5_aliases_101 : decode cX5_aliases 101 = .ok (.iinc 5 1, 3) := by decide +kernel
theorem dX5_aliases_104 : decode cX5_aliases 104 = .ok (.iinc 6 1, 3) := by decide +kernel
theorem dX5_aliases_107 : decode cX5_aliases 107 = .ok (.goto (-49), 3) := by decide +kernel
theorem dX5_aliases_110 : decode cX5_aliases 110 = .ok (.iload 5, 2) := by decide +kernel
theorem dX5_aliases_112 : decode cX5_aliases 112 = .ok (.ireturn, 1) := by decide +kernel
theorem dX5_share_0 : decode cX5_share 0 = .ok (.aload_n 0, 1) := by decide +kernel
theorem dX5_share_1 : decode cX5_share 1 = .ok (.iload_n 1, 1) := by decide +kernel
theorem dX5_share_2 : decode cX5_share 2 = .ok (.invokevirtual 71, 3) := by decide +kernel
theorem dX5_share_5 : decode cX5_share 5 = .ok (.ifCond .ne 6, 3) := by decide +kernel
theorem dX5_share_8 : decode cX5_share 8 = .ok (.ldc 44, 2) := by decide +kernel
theorem dX5_share_10 : decode cX5_share 10 = .ok (.ireturn, 1) := by decide +kernel
theorem dX5_share_11 : decode cX5_share 11 = .ok (.aload_n 0, 1) := by decide +kernel
theorem dX5_share_12 : decode cX5_share 12 = .ok (.getfield 10, 3) := by decide +kernel
theorem dX5_share_15 : decode cX5_share 15 = .ok (.getfield 61, 3) := by decide +kernel
theorem dX5_share_18 : decode cX5_share 18 = .ok (.iload_n 1, 1) := by decide +kernel
theorem dX5_share_19 : decode cX5_share 19 = .ok (.aaload, 1) := by decide +kernel
theorem dX5_share_20 : decode cX5_share 20 = .ok (.astore_n 2, 1) := by decide +kernel
theorem dX5_share_21 : decode cX5_share 21 = .ok (.aload_n 2, 1) := by decide +kernel
theorem dX5_share_22 : decode cX5_share 22 = .ok (.getfield 121, 3) := by decide +kernel
theorem dX5_share_25 : decode cX5_share 25 = .ok (.aload_n 2, 1) := by decide +kernel
theorem dX5_share_26 : decode cX5_share 26 = .ok (.getfield 124, 3) := by decide +kernel
theorem dX5_share_29 : decode cX5_share 29 = .ok (.iadd, 1) := by decide +kernel
theorem dX5_share_30 : decode cX5_share 30 = .ok (.istore_n 3, 1) := by decide +kernel
theorem dX5_share_31 : decode cX5_share 31 = .ok (.iload_n 3, 1) := by decide +kernel
theorem dX5_share_32 : decode cX5_share 32 = .ok (.ifCond .le 14, 3) := by decide +kernel
theorem dX5_share_35 : decode cX5_share 35 = .ok (.aload_n 2, 1) := by decide +kernel
theorem dX5_share_36 : decode cX5_share 36 = .ok (.getfield 121, 3) := by decide +kernel
theorem dX5_share_39 : decode cX5_share 39 = .ok (.iload_n 3, 1) := by decide +kernel
theorem dX5_share_40 : decode cX5_share 40 = .ok (.invokestatic 173, 3) := by decide +kernel
theorem dX5_share_43 : decode cX5_share 43 = .ok (.goto 5, 3) := by decide +kernel
theorem dX5_share_46 : decode cX5_share 46 = .ok (.ldc 120, 2) := by decide +kernel
theorem dX5_share_48 : decode cX5_share 48 = .ok (.ireturn, 1) := by decide +kernel
theorem dX5_rich_0 : decode cX5_rich 0 = .ok (.iload_n 1, 1) := by decide +kernel
theorem dX5_rich_1 : decode cX5_rich 1 = .ok (.ifCond .ge 6, 3) := by decide +kernel
theorem dX5_rich_4 : decode cX5_rich 4 = .ok (.ldc 44, 2) := by decide +kernel
theorem dX5_rich_6 : decode cX5_rich 6 = .ok (.ireturn, 1) := by decide +kernel
theorem dX5_rich_7 : decode cX5_rich 7 = .ok (.iconst 0, 1) := by decide +kernel
theorem dX5_rich_8 : decode cX5_rich 8 = .ok (.istore_n 2, 1) := by decide +kernel
theorem dX5_rich_9 : decode cX5_rich 9 = .ok (.iload_n 2, 1) := by decide +kernel
theorem dX5_rich_10 : decode cX5_rich 10 = .ok (.aload_n 0, 1) := by decide +kernel
theorem dX5_rich_11 : decode cX5_rich 11 = .ok (.getfield 10, 3) := by decide +kernel
theorem dX5_rich_14 : decode cX5_rich 14 = .ok (.getfield 56, 3) := by decide +kernel
theorem dX5_rich_17 : decode cX5_rich 17 = .ok (.if_icmp .ge 23, 3) := by decide +kernel
theorem dX5_rich_20 : decode cX5_rich 20 = .ok (.aload_n 0, 1) := by decide +kernel
theorem dX5_rich_21 : decode cX5_rich 21 = .ok (.getfield 10, 3) := by decide +kernel
theorem dX5_rich_24 : decode cX5_rich 24 = .ok (.iload_n 2, 1) := by decide +kernel
theorem dX5_rich_25 : decode cX5_rich 25 = .ok (.invokevirtual 176, 3) := by decide +kernel
theorem dX5_rich_28 : decode cX5_rich 28 = .ok (.iload_n 1, 1) := by decide +kernel
theorem dX5_rich_29 : decode cX5_rich 29 = .ok (.if_icmp .ne 5, 3) := by decide +kernel
theorem dX5_rich_32 : decode cX5_rich 32 = .ok (.iload_n 2, 1) := by decide +kernel
theorem dX5_rich_33 : decode cX5_rich 33 = .ok (.ireturn, 1) := by decide +kernel
theorem dX5_rich_34 : decode cX5_rich 34 = .ok (.iinc 2 1, 3) := by decide +kernel
theorem dX5_rich_37 : decode cX5_rich 37 = .ok (.goto (-28), 3) := by decide +kernel
theorem dX5_rich_40 : decode cX5_rich 40 = .ok (.ldc 120, 2) := by decide +kernel
theorem dX5_rich_42 : decode cX5_rich 42 = .ok (.ireturn, 1) := by decide +kernel
theorem dX5_says_0 : decode cX5_says 0 = .ok (.aload_n 0, 1) := by decide +kernel
theorem dX5_says_1 : decode cX5_says 1 = .ok (.iload_n 1, 1) := by decide +kernel
theorem dX5_says_2 : decode cX5_says 2 = .ok (.invokevirtual 71, 3) := by decide +kernel
theorem dX5_says_5 : decode cX5_says 5 = .ok (.ifCond .eq 10, 3) := by decide +kernel
theorem dX5_says_8 : decode cX5_says 8 = .ok (.iload_n 2, 1) := by decide +kernel
theorem dX5_says_9 : decode cX5_says 9 = .ok (.invokestatic 107, 3) := by decide +kernel
theorem dX5_says_12 : decode cX5_says 12 = .ok (.ifCond .ne 6, 3) := by decide +kernel
theorem dX5_says_15 : decode cX5_says 15 = .ok (.ldc 44, 2) := by decide +kernel
theorem dX5_says_17 : decode cX5_says 17 = .ok (.ireturn, 1) := by decide +kernel
theorem dX5_says_18 : decode cX5_says 18 = .ok (.aload_n 0, 1) := by decide +kernel
theorem dX5_says_19 : decode cX5_says 19 = .ok (.getfield 10, 3) := by decide +kernel
theorem dX5_says_22 : decode cX5_says 22 = .ok (.iload_n 2, 1) := by decide +kernel
theorem dX5_says_23 : decode cX5_says 23 = .ok (.invokevirtual 179, 3) := by decide +kernel
theorem dX5_says_26 : decode cX5_says 26 = .ok (.aload_n 0, 1) := by decide +kernel
theorem dX5_says_27 : decode cX5_says 27 = .ok (.getfield 10, 3) := by decide +kernel
theorem dX5_says_30 : decode cX5_says 30 = .ok (.getfield 61, 3) := by decide +kernel
theorem dX5_says_33 : decode cX5_says 33 = .ok (.iload_n 1, 1) := by decide +kernel
theorem dX5_says_34 : decode cX5_says 34 = .ok (.aaload, 1) := by decide +kernel
theorem dX5_says_35 : decode cX5_says 35 = .ok (.getfield 183, 3) := by decide +kernel
theorem dX5_says_38 : decode cX5_says 38 = .ok (.ireturn, 1) := by decide +kernel
theorem dX5_stake_0 : decode cX5_stake 0 = .ok (.aload_n 0, 1) := by decide +kernel
theorem dX5_stake_1 : decode cX5_stake 1 = .ok (.iload_n 1, 1) := by decide +kernel
theorem dX5_stake_2 : decode cX5_stake 2 = .ok (.invokevirtual 71, 3) := by decide +kernel
theorem dX5_stake_5 : decode cX5_stake 5 = .ok (.ifCond .eq 10, 3) := by decide +kernel
theorem dX5_stake_8 : decode cX5_stake 8 = .ok (.iload_n 2, 1) := by decide +kernel
theorem dX5_stake_9 : decode cX5_stake 9 = .ok (.invokestatic 107, 3) := by decide +kernel
theorem dX5_stake_12 : decode cX5_stake 12 = .ok (.ifCond .ne 6, 3) := by decide +kernel
theorem dX5_stake_15 : decode cX5_stake 15 = .ok (.ldc 44, 2) := by decide +kernel
theorem dX5_stake_17 : decode cX5_stake 17 = .ok (.ireturn, 1) := by decide +kernel
theorem dX5_stake_18 : decode cX5_stake 18 = .ok (.aload_n 0, 1) := by decide +kernel
theorem dX5_stake_19 : decode cX5_stake 19 = .ok (.getfield 10, 3) := by decide +kernel
theorem dX5_stake_22 : decode cX5_stake 22 = .ok (.iload_n 2, 1) := by decide +kernel
theorem dX5_stake_23 : decode cX5_stake 23 = .ok (.invokevirtual 179, 3) := by decide +kernel
theorem dX5_stake_26 : decode cX5_stake 26 = .ok (.aload_n 0, 1) := by decide +kernel
theorem dX5_stake_27 : decode cX5_stake 27 = .ok (.getfield 10, 3) := by decide +kernel
theorem dX5_stake_30 : decode cX5_stake 30 = .ok (.getfield 61, 3) := by decide +kernel
theorem dX5_stake_33 : decode cX5_stake 33 = .ok (.iload_n 1, 1) := by decide +kernel
theorem dX5_stake_34 : decode cX5_stake 34 = .ok (.aaload, 1) := by decide +kernel
theorem dX5_stake_35 : decode cX5_stake 35 = .ok (.getfield 186, 3) := by decide +kernel
theorem dX5_stake_38 : decode cX5_stake 38 = .ok (.ireturn, 1) := by decide +kernel
theorem dX5_odds_0 : decode cX5_odds 0 = .ok (.iload_n 1, 1) := by decide +kernel
theorem dX5_odds_1 : decode cX5_odds 1 = .ok (.invokestatic 107, 3) := by decide +kernel
theorem dX5_odds_4 : decode cX5_odds 4 = .ok (.ifCond .ne 6, 3) := by decide +kernel
theorem dX5_odds_7 : decode cX5_odds 7 = .ok (.ldc 44, 2) := by decide +kernel
theorem dX5_odds_9 : decode cX5_odds 9 = .ok (.ireturn, 1) := by decide +kernel
theorem dX5_odds_10 : decode cX5_odds 10 = .ok (.aload_n 0, 1) := by decide +kernel
theorem dX5_odds_11 : decode cX5_odds 11 = .ok (.getfield 10, 3) := by decide +kernel
theorem dX5_odds_14 : decode cX5_odds 14 = .ok (.iload_n 1, 1) := by decide +kernel
theorem dX5_odds_15 : decode cX5_odds 15 = .ok (.invokevirtual 179, 3) := by decide +kernel
theorem dX5_odds_18 : decode cX5_odds 18 = .ok (.aload_n 0, 1) := by decide +kernel
theorem dX5_odds_19 : decode cX5_odds 19 = .ok (.getfield 10, 3) := by decide +kernel
theorem dX5_odds_22 : decode cX5_odds 22 = .ok (.iconst 1, 1) := by decide +kernel
theorem dX5_odds_23 : decode cX5_odds 23 = .ok (.invokevirtual 189, 3) := by decide +kernel
theorem dX5_odds_26 : decode cX5_odds 26 = .ok (.istore_n 2, 1) := by decide +kernel
theorem dX5_odds_27 : decode cX5_odds 27 = .ok (.iload_n 2, 1) := by decide +kernel
theorem dX5_odds_28 : decode cX5_odds 28 = .ok (.aload_n 0, 1) := by decide +kernel
theorem dX5_odds_29 : decode cX5_odds 29 = .ok (.getfield 10, 3) := by decide +kernel
theorem dX5_odds_32 : decode cX5_odds 32 = .ok (.iconst 0, 1) := by decide +kernel
theorem dX5_odds_33 : decode cX5_odds 33 = .ok (.invokevirtual 189, 3) := by decide +kernel
theorem dX5_odds_36 : decode cX5_odds 36 = .ok (.iadd, 1) := by decide +kernel
theorem dX5_odds_37 : decode cX5_odds 37 = .ok (.istore_n 3, 1) := by decide +kernel
theorem dX5_odds_38 : decode cX5_odds 38 = .ok (.iload_n 3, 1) := by decide +kernel
theorem dX5_odds_39 : decode cX5_odds 39 = .ok (.ifCond .le 11, 3) := by decide +kernel
theorem dX5_odds_42 : decode cX5_odds 42 = .ok (.iload_n 2, 1) := by decide +kernel
theorem dX5_odds_43 : decode cX5_odds 43 = .ok (.iload_n 3, 1) := by decide +kernel
theorem dX5_odds_44 : decode cX5_odds 44 = .ok (.invokestatic 173, 3) := by decide +kernel
theorem dX5_odds_47 : decode cX5_odds 47 = .ok (.goto 5, 3) := by decide +kernel
theorem dX5_odds_50 : decode cX5_odds 50 = .ok (.ldc 120, 2) := by decide +kernel
theorem dX5_odds_52 : decode cX5_odds 52 = .ok (.ireturn, 1) := by decide +kernel
theorem dX5_gain_0 : decode cX5_gain 0 = .ok (.aload_n 0, 1) := by decide +kernel
theorem dX5_gain_1 : decode cX5_gain 1 = .ok (.iload_n 1, 1) := by decide +kernel
theorem dX5_gain_2 : decode cX5_gain 2 = .ok (.invokevirtual 71, 3) := by decide +kernel
theorem dX5_gain_5 : decode cX5_gain 5 = .ok (.ifCond .eq 19, 3) := by decide +kernel
theorem dX5_gain_8 : decode cX5_gain 8 = .ok (.iload_n 2, 1) := by decide +kernel
theorem dX5_gain_9 : decode cX5_gain 9 = .ok (.invokestatic 107, 3) := by decide +kernel
theorem dX5_gain_12 : decode cX5_gain 12 = .ok (.ifCond .eq 12, 3) := by decide +kernel
theorem dX5_gain_15 : decode cX5_gain 15 = .ok (.iload_n 3, 1) := by decide +kernel
theorem dX5_gain_16 : decode cX5_gain 16 = .ok (.iconst 0, 1) := by decide +kernel
theorem dX5_gain_17 : decode cX5_gain 17 = .ok (.iconst 1, 1) := by decide +kernel
theorem dX5_gain_18 : decode cX5_gain 18 = .ok (.invokestatic 33, 3) := by decide +kernel
theorem dX5_gain_21 : decode cX5_gain 21 = .ok (.ifCond .ne 6, 3) := by decide +kernel
theorem dX5_gain_24 : decode cX5_gain 24 = .ok (.ldc 44, 2) := by decide +kernel
theorem dX5_gain_26 : decode cX5_gain 26 = .ok (.ireturn, 1) := by decide +kernel
theorem dX5_gain_27 : decode cX5_gain 27 = .ok (.aload_n 0, 1) := by decide +kernel
theorem dX5_gain_28 : decode cX5_gain 28 = .ok (.getfield 16, 3) := by decide +kernel
theorem dX5_gain_31 : decode cX5_gain 31 = .ok (.aload_n 0, 1) := by decide +kernel
theorem dX5_gain_32 : decode cX5_gain 32 = .ok (.getfield 10, 3) := by decide +kernel
theorem dX5_gain_35 : decode cX5_gain 35 = .ok (.invokevirtual 192, 3) := by decide +kernel
theorem dX5_gain_38 : decode cX5_gain 38 = .ok (.aload_n 0, 1) := by decide +kernel
theorem dX5_gain_39 : decode cX5_gain 39 = .ok (.getfield 16, 3) := by decide +kernel
theorem dX5_gain_42 : decode cX5_gain 42 = .ok (.iload_n 2, 1) := by decide +kernel
theorem dX5_gain_43 : decode cX5_gain 43 = .ok (.iload_n 3, 1) := by decide +kernel
theorem dX5_gain_44 : decode cX5_gain 44 = .ok (.invokevirtual 110, 3) := by decide +kernel
theorem dX5_gain_47 : decode cX5_gain 47 = .ok (.pop, 1) := by decide +kernel
theorem dX5_gain_48 : decode cX5_gain 48 = .ok (.aload_n 0, 1) := by decide +kernel
theorem dX5_gain_49 : decode cX5_gain 49 = .ok (.getfield 16, 3) := by decide +kernel
theorem dX5_gain_52 : decode cX5_gain 52 = .ok (.getfield 61, 3) := by decide +kernel
theorem dX5_gain_55 : decode cX5_gain 55 = .ok (.iload_n 1, 1) := by decide +kernel
theorem dX5_gain_56 : decode cX5_gain 56 = .ok (.aaload, 1) := by decide +kernel
theorem dX5_gain_57 : decode cX5_gain 57 = .ok (.getfield 96, 3) := by decide +kernel
theorem dX5_gain_60 : decode cX5_gain 60 = .ok (.aload_n 0, 1) := by decide +kernel
theorem dX5_gain_61 : decode cX5_gain 61 = .ok (.getfield 10, 3) := by decide +kernel
theorem dX5_gain_64 : decode cX5_gain 64 = .ok (.getfield 61, 3) := by decide +kernel
theorem dX5_gain_67 : decode cX5_gain 67 = .ok (.iload_n 1, 1) := by decide +kernel
theorem dX5_gain_68 : decode cX5_gain 68 = .ok (.aaload, 1) := by decide +kernel
theorem dX5_gain_69 : decode cX5_gain 69 = .ok (.getfield 96, 3) := by decide +kernel
theorem dX5_gain_72 : decode cX5_gain 72 = .ok (.isub, 1) := by decide +kernel
theorem dX5_gain_73 : decode cX5_gain 73 = .ok (.ireturn, 1) := by decide +kernel
theorem dX5_doom_0 : decode cX5_doom 0 = .ok (.aload_n 0, 1) := by decide +kernel
theorem dX5_doom_1 : decode cX5_doom 1 = .ok (.iload_n 1, 1) := by decide +kernel
theorem dX5_doom_2 : decode cX5_doom 2 = .ok (.invokevirtual 71, 3) := by decide +kernel
theorem dX5_doom_5 : decode cX5_doom 5 = .ok (.ifCond .eq 19, 3) := by decide +kernel
theorem dX5_doom_8 : decode cX5_doom 8 = .ok (.iload_n 2, 1) := by decide +kernel
theorem dX5_doom_9 : decode cX5_doom 9 = .ok (.invokestatic 107, 3) := by decide +kernel
theorem dX5_doom_12 : decode cX5_doom 12 = .ok (.ifCond .eq 12, 3) := by decide +kernel
theorem dX5_doom_15 : decode cX5_doom 15 = .ok (.iload_n 3, 1) := by decide +kernel
theorem dX5_doom_16 : decode cX5_doom 16 = .ok (.iconst 0, 1) := by decide +kernel
theorem dX5_doom_17 : decode cX5_doom 17 = .ok (.iconst 1, 1) := by decide +kernel
theorem dX5_doom_18 : decode cX5_doom 18 = .ok (.invokestatic 33, 3) := by decide +kernel
theorem dX5_doom_21 : decode cX5_doom 21 = .ok (.ifCond .ne 6, 3) := by decide +kernel
theorem dX5_doom_24 : decode cX5_doom 24 = .ok (.ldc 44, 2) := by decide +kernel
theorem dX5_doom_26 : decode cX5_doom 26 = .ok (.ireturn, 1) := by decide +kernel
theorem dX5_doom_27 : decode cX5_doom 27 = .ok (.aload_n 0, 1) := by decide +kernel
theorem dX5_doom_28 : decode cX5_doom 28 = .ok (.getfield 16, 3) := by decide +kernel
theorem dX5_doom_31 : decode cX5_doom 31 = .ok (.aload_n 0, 1) := by decide +kernel
theorem dX5_doom_32 : decode cX5_doom 32 = .ok (.getfield 10, 3) := by decide +kernel
theorem dX5_doom_35 : decode cX5_doom 35 = .ok (.invokevirtual 192, 3) := by decide +kernel
theorem dX5_doom_38 : decode cX5_doom 38 = .ok (.aload_n 0, 1) := by decide +kernel
theorem dX5_doom_39 : decode cX5_doom 39 = .ok (.getfield 16, 3) := by decide +kernel
theorem dX5_doom_42 : decode cX5_doom 42 = .ok (.getfield 61, 3) := by decide +kernel
theorem dX5_doom_45 : decode cX5_doom 45 = .ok (.iload_n 1, 1) := by decide +kernel
theorem dX5_doom_46 : decode cX5_doom 46 = .ok (.aaload, 1) := by decide +kernel
theorem dX5_doom_47 : decode cX5_doom 47 = .ok (.astore 4, 2) := by decide +kernel
theorem dX5_doom_49 : decode cX5_doom 49 = .ok (.iconst 0, 1) := by decide +kernel
theorem dX5_doom_50 : decode cX5_doom 50 = .ok (.istore 5, 2) := by decide +kernel
theorem dX5_doom_52 : decode cX5_doom 52 = .ok (.iload 5, 2) := by decide +kernel
theorem dX5_doom_54 : decode cX5_doom 54 = .ok (.bipush 100, 2) := by decide +kernel
theorem dX5_doom_56 : decode cX5_doom 56 = .ok (.if_icmp .ge 30, 3) := by decide +kernel
theorem dX5_doom_59 : decode cX5_doom 59 = .ok (.aload 4, 2) := by decide +kernel
theorem dX5_doom_61 : decode cX5_doom 61 = .ok (.invokevirtual 195, 3) := by decide +kernel
theorem dX5_doom_64 : decode cX5_doom 64 = .ok (.ifCond .eq 6, 3) := by decide +kernel
theorem dX5_doom_67 : decode cX5_doom 67 = .ok (.iload 5, 2) := by decide +kernel
theorem dX5_doom_69 : decode cX5_doom 69 = .ok (.ireturn, 1) := by decide +kernel
theorem dX5_doom_70 : decode cX5_doom 70 = .ok (.aload_n 0, 1) := by decide +kernel
theorem dX5_doom_71 : decode cX5_doom 71 = .ok (.getfield 16, 3) := by decide +kernel
theorem dX5_doom_74 : decode cX5_doom 74 = .ok (.iload_n 2, 1) := by decide +kernel
theorem dX5_doom_75 : decode cX5_doom 75 = .ok (.iload_n 3, 1) := by decide +kernel
theorem dX5_doom_76 : decode cX5_doom 76 = .ok (.invokevirtual 110, 3) := by decide +kernel
theorem dX5_doom_79 : decode cX5_doom 79 = .ok (.pop, 1) := by decide +kernel
theorem dX5_doom_80 : decode cX5_doom 80 = .ok (.iinc 5 1, 3) := by decide +kernel
theorem dX5_doom_83 : decode cX5_doom 83 = .ok (.goto (-31), 3) := by decide +kernel
theorem dX5_doom_86 : decode cX5_doom 86 = .ok (.aload 4, 2) := by decide +kernel
theorem dX5_doom_88 : decode cX5_doom 88 = .ok (.invokevirtual 195, 3) := by decide +kernel
theorem dX5_doom_91 : decode cX5_doom 91 = .ok (.ifCond .eq 8, 3) := by decide +kernel
theorem dX5_doom_94 : decode cX5_doom 94 = .ok (.bipush 100, 2) := by decide +kernel
theorem dX5_doom_96 : decode cX5_doom 96 = .ok (.goto 5, 3) := by decide +kernel
theorem dX5_doom_99 : decode cX5_doom 99 = .ok (.ldc 120, 2) := by decide +kernel
theorem dX5_doom_101 : decode cX5_doom 101 = .ok (.ireturn, 1) := by decide +kernel
theorem dX5_bestRow_0 : decode cX5_bestRow 0 = .ok (.aload_n 0, 1) := by decide +kernel
theorem dX5_bestRow_1 : decode cX5_bestRow 1 = .ok (.iload_n 1, 1) := by decide +kernel
theorem dX5_bestRow_2 : decode cX5_bestRow 2 = .ok (.invokevirtual 71, 3) := by decide +kernel
theorem dX5_bestRow_5 : decode cX5_bestRow 5 = .ok (.ifCond .eq 29, 3) := by decide +kernel
theorem dX5_bestRow_8 : decode cX5_bestRow 8 = .ok (.iload_n 2, 1) := by decide +kernel
theorem dX5_bestRow_9 : decode cX5_bestRow 9 = .ok (.invokestatic 107, 3) := by decide +kernel
theorem dX5_bestRow_12 : decode cX5_bestRow 12 = .ok (.ifCond .eq 22, 3) := by decide +kernel
theorem dX5_bestRow_15 : decode cX5_bestRow 15 = .ok (.iload_n 3, 1) := by decide +kernel
theorem dX5_bestRow_16 : decode cX5_bestRow 16 = .ok (.iconst 1, 1) := by decide +kernel
theorem dX5_bestRow_17 : decode cX5_bestRow 17 = .ok (.iconst 5, 1) := by decide +kernel
theorem dX5_bestRow_18 : decode cX5_bestRow 18 = .ok (.invokestatic 33, 3) := by decide +kernel
theorem dX5_bestRow_21 : decode cX5_bestRow 21 = .ok (.ifCond .eq 13, 3) := by decide +kernel
theorem dX5_bestRow_24 : decode cX5_bestRow 24 = .ok (.iload 4, 2) := by decide +kernel
theorem dX5_bestRow_26 : decode cX5_bestRow 26 = .ok (.iconst 0, 1) := by decide +kernel
theorem dX5_bestRow_27 : decode cX5_bestRow 27 = .ok (.iconst 1, 1) := by decide +kernel
theorem dX5_bestRow_28 : decode cX5_bestRow 28 = .ok (.invokestatic 33, 3) := by decide +kernel
theorem dX5_bestRow_31 : decode cX5_bestRow 31 = .ok (.ifCond .ne 6, 3) := by decide +kernel
theorem dX5_bestRow_34 : decode cX5_bestRow 34 = .ok (.ldc 44, 2) := by decide +kernel
theorem dX5_bestRow_36 : decode cX5_bestRow 36 = .ok (.ireturn, 1) := by decide +kernel
theorem dX5_bestRow_37 : decode cX5_bestRow 37 = .ok (.iconst 0, 1) := by decide +kernel
theorem dX5_bestRow_38 : decode cX5_bestRow 38 = .ok (.istore 5, 2) := by decide +kernel
theorem dX5_bestRow_40 : decode cX5_bestRow 40 = .ok (.iconst (-1), 1) := by decide +kernel
theorem dX5_bestRow_41 : decode cX5_bestRow 41 = .ok (.istore 6, 2) := by decide +kernel
theorem dX5_bestRow_43 : decode cX5_bestRow 43 = .ok (.iconst 0, 1) := by decide +kernel
theorem dX5_bestRow_44 : decode cX5_bestRow 44 = .ok (.istore 7, 2) := by decide +kernel
theorem dX5_bestRow_46 : decode cX5_bestRow 46 = .ok (.iload 7, 2) := by decide +kernel
theorem dX5_bestRow_48 : decode cX5_bestRow 48 = .ok (.iconst 1, 1) := by decide +kernel
theorem dX5_bestRow_49 : decode cX5_bestRow 49 = .ok (.iload_n 3, 1) := by decide +kernel
theorem dX5_bestRow_50 : decode cX5_bestRow 50 = .ok (.ishl, 1) := by decide +kernel
theorem dX5_bestRow_51 : decode cX5_bestRow 51 = .ok (.if_icmp .ge 35, 3) := by decide +kernel
theorem dX5_bestRow_54 : decode cX5_bestRow 54 = .ok (.aload_n 0, 1) := by decide +kernel
theorem dX5_bestRow_55 : decode cX5_bestRow 55 = .ok (.iload 7, 2) := by decide +kernel
theorem dX5_bestRow_57 : decode cX5_bestRow 57 = .ok (.iload_n 1, 1) := by decide +kernel
theorem dX5_bestRow_58 : decode cX5_bestRow 58 = .ok (.iload_n 2, 1) := by decide +kernel
theorem dX5_bestRow_59 : decode cX5_bestRow 59 = .ok (.iload_n 3, 1) := by decide +kernel
theorem dX5_bestRow_60 : decode cX5_bestRow 60 = .ok (.invokevirtual 198, 3) := by decide +kernel
theorem dX5_bestRow_63 : decode cX5_bestRow 63 = .ok (.istore 8, 2) := by decide +kernel
theorem dX5_bestRow_65 : decode cX5_bestRow 65 = .ok (.iload 8, 2) := by decide +kernel
theorem dX5_bestRow_67 : decode cX5_bestRow 67 = .ok (.iload 6, 2) := by decide +kernel
theorem dX5_bestRow_69 : decode cX5_bestRow 69 = .ok (.if_icmp .le 11, 3) := by decide +kernel
theorem dX5_bestRow_72 : decode cX5_bestRow 72 = .ok (.iload 8, 2) := by decide +kernel
theorem dX5_bestRow_74 : decode cX5_bestRow 74 = .ok (.istore 6, 2) := by decide +kernel
theorem dX5_bestRow_76 : decode cX5_bestRow 76 = .ok (.iload 7, 2) := by decide +kernel
theorem dX5_bestRow_78 : decode cX5_bestRow 78 = .ok (.istore 5, 2) := by decide +kernel
theorem dX5_bestRow_80 : decode cX5_bestRow 80 = .ok (.iinc 7 1, 3) := by decide +kernel
theorem dX5_bestRow_83 : decode cX5_bestRow 83 = .ok (.goto (-37), 3) := by decide +kernel
theorem dX5_bestRow_86 : decode cX5_bestRow 86 = .ok (.iload 4, 2) := by decide +kernel
theorem dX5_bestRow_88 : decode cX5_bestRow 88 = .ok (.ifCond .ne 8, 3) := by decide +kernel
theorem dX5_bestRow_91 : decode cX5_bestRow 91 = .ok (.iload 5, 2) := by decide +kernel
theorem dX5_bestRow_93 : decode cX5_bestRow 93 = .ok (.goto 5, 3) := by decide +kernel
theorem dX5_bestRow_96 : decode cX5_bestRow 96 = .ok (.iload 6, 2) := by decide +kernel
theorem dX5_bestRow_98 : decode cX5_bestRow 98 = .ok (.ireturn, 1) := by decide +kernel
theorem dX5_count_0 : decode cX5_count 0 = .ok (.iload_n 1, 1) := by decide +kernel
theorem dX5_count_1 : decode cX5_count 1 = .ok (.bipush 20, 2) := by decide +kernel
theorem dX5_count_3 : decode cX5_count 3 = .ok (.bipush 22, 2) := by decide +kernel
theorem dX5_count_5 : decode cX5_count 5 = .ok (.invokestatic 33, 3) := by decide +kernel
theorem dX5_count_8 : decode cX5_count 8 = .ok (.ifCond .eq 16, 3) := by decide +kernel
theorem dX5_count_11 : decode cX5_count 11 = .ok (.aload_n 0, 1) := by decide +kernel
theorem dX5_count_12 : decode cX5_count 12 = .ok (.getfield 10, 3) := by decide +kernel
theorem dX5_count_15 : decode cX5_count 15 = .ok (.getfield 49, 3) := by decide +kernel
theorem dX5_count_18 : decode cX5_count 18 = .ok (.iload_n 1, 1) := by decide +kernel
theorem dX5_count_19 : decode cX5_count 19 = .ok (.bipush 20, 2) := by decide +kernel
theorem dX5_count_21 : decode cX5_count 21 = .ok (.isub, 1) := by decide +kernel
theorem dX5_count_22 : decode cX5_count 22 = .ok (.iaload, 1) := by decide +kernel
theorem dX5_count_23 : decode cX5_count 23 = .ok (.ireturn, 1) := by decide +kernel
theorem dX5_count_24 : decode cX5_count 24 = .ok (.iload_n 1, 1) := by decide +kernel
theorem dX5_count_25 : decode cX5_count 25 = .ok (.tableswitch 147 0 10 #[59, 67, 75, 83, 91, 99, 107, 115, 123, 131, 139], 59) := by decide +kernel
theorem dX5_count_84 : decode cX5_count 84 = .ok (.aload_n 0, 1) := by decide +kernel
theorem dX5_count_85 : decode cX5_count 85 = .ok (.getfield 10, 3) := by decide +kernel
theorem dX5_count_88 : decode cX5_count 88 = .ok (.getfield 56, 3) := by decide +kernel
theorem dX5_count_91 : decode cX5_count 91 = .ok (.ireturn, 1) := by decide +kernel
theorem dX5_count_92 : decode cX5_count 92 = .ok (.aload_n 0, 1) := by decide +kernel
theorem dX5_count_93 : decode cX5_count 93 = .ok (.getfield 10, 3) := by decide +kernel
theorem dX5_count_96 : decode cX5_count 96 = .ok (.invokevirtual 202, 3) := by decide +kernel
theorem dX5_count_99 : decode cX5_count 99 = .ok (.ireturn, 1) := by decide +kernel
theorem dX5_count_100 : decode cX5_count 100 = .ok (.aload_n 0, 1) := by decide +kernel
theorem dX5_count_101 : decode cX5_count 101 = .ok (.getfield 10, 3) := by decide +kernel
theorem dX5_count_104 : decode cX5_count 104 = .ok (.invokevirtual 205, 3) := by decide +kernel
theorem dX5_count_107 : decode cX5_count 107 = .ok (.ireturn, 1) := by decide +kernel
theorem dX5_count_108 : decode cX5_count 108 = .ok (.aload_n 0, 1) := by decide +kernel
theorem dX5_count_109 : decode cX5_count 109 = .ok (.getfield 10, 3) := by decide +kernel
theorem dX5_count_112 : decode cX5_count 112 = .ok (.getfield 208, 3) := by decide +kernel
theorem dX5_count_115 : decode cX5_count 115 = .ok (.ireturn, 1) := by decide +kernel
theorem dX5_count_116 : decode cX5_count 116 = .ok (.aload_n 0, 1) := by decide +kernel
theorem dX5_count_117 : decode cX5_count 117 = .ok (.getfield 10, 3) := by decide +kernel
theorem dX5_count_120 : decode cX5_count 120 = .ok (.invokevirtual 211, 3) := by decide +kernel
theorem dX5_count_123 : decode cX5_count 123 = .ok (.ireturn, 1) := by decide +kernel
theorem dX5_count_124 : decode cX5_count 124 = .ok (.aload_n 0, 1) := by decide +kernel
theorem dX5_count_125 : decode cX5_count 125 = .ok (.getfield 10, 3) := by decide +kernel
theorem dX5_count_128 : decode cX5_count 128 = .ok (.getfield 164, 3) := by decide +kernel
theorem dX5_count_131 : decode cX5_count 131 = .ok (.ireturn, 1) := by decide +kernel
theorem dX5_count_132 : decode cX5_count 132 = .ok (.aload_n 0, 1) := by decide +kernel
theorem dX5_count_133 : decode cX5_count 133 = .ok (.getfield 10, 3) := by decide +kernel
theorem dX5_count_136 : decode cX5_count 136 = .ok (.getfield 214, 3) := by decide +kernel
theorem dX5_count_139 : decode cX5_count 139 = .ok (.ireturn, 1) := by decide +kernel
theorem dX5_count_140 : decode cX5_count 140 = .ok (.aload_n 0, 1) := by decide +kernel
theorem dX5_count_141 : decode cX5_count 141 = .ok (.getfield 10, 3) := by decide +kernel
theorem dX5_count_144 : decode cX5_count 144 = .ok (.getfield 217, 3) := by decide +kernel
theorem dX5_count_147 : decode cX5_count 147 = .ok (.ireturn, 1) := by decide +kernel
theorem dX5_count_148 : decode cX5_count 148 = .ok (.aload_n 0, 1) := by decide +kernel
theorem dX5_count_149 : decode cX5_count 149 = .ok (.getfield 10, 3) := by decide +kernel
theorem dX5_count_152 : decode cX5_count 152 = .ok (.getfield 100, 3) := by decide +kernel
theorem dX5_count_155 : decode cX5_count 155 = .ok (.ireturn, 1) := by decide +kernel
theorem dX5_count_156 : decode cX5_count 156 = .ok (.aload_n 0, 1) := by decide +kernel
theorem dX5_count_157 : decode cX5_count 157 = .ok (.getfield 22, 3) := by decide +kernel
theorem dX5_count_160 : decode cX5_count 160 = .ok (.getfield 220, 3) := by decide +kernel
theorem dX5_count_163 : decode cX5_count 163 = .ok (.ireturn, 1) := by decide +kernel
theorem dX5_count_164 : decode cX5_count 164 = .ok (.aload_n 0, 1) := by decide +kernel
theorem dX5_count_165 : decode cX5_count 165 = .ok (.getfield 29, 3) := by decide +kernel
theorem dX5_count_168 : decode cX5_count 168 = .ok (.getfield 223, 3) := by decide +kernel
theorem dX5_count_171 : decode cX5_count 171 = .ok (.ireturn, 1) := by decide +kernel
theorem dX5_count_172 : decode cX5_count 172 = .ok (.ldc 44, 2) := by decide +kernel
theorem dX5_count_174 : decode cX5_count 174 = .ok (.ireturn, 1) := by decide +kernel
theorem dX5_undo_0 : decode cX5_undo 0 = .ok (.aload_n 0, 1) := by decide +kernel
theorem dX5_undo_1 : decode cX5_undo 1 = .ok (.getfield 22, 3) := by decide +kernel
theorem dX5_undo_4 : decode cX5_undo 4 = .ok (.getfield 220, 3) := by decide +kernel
theorem dX5_undo_7 : decode cX5_undo 7 = .ok (.ifCond .gt 6, 3) := by decide +kernel
theorem dX5_undo_10 : decode cX5_undo 10 = .ok (.ldc 83, 2) := by decide +kernel
theorem dX5_undo_12 : decode cX5_undo 12 = .ok (.ireturn, 1) := by decide +kernel
theorem dX5_undo_13 : decode cX5_undo 13 = .ok (.aload_n 0, 1) := by decide +kernel
theorem dX5_undo_14 : decode cX5_undo 14 = .ok (.getfield 22, 3) := by decide +kernel
theorem dX5_undo_17 : decode cX5_undo 17 = .ok (.aload_n 0, 1) := by decide +kernel
theorem dX5_undo_18 : decode cX5_undo 18 = .ok (.getfield 10, 3) := by decide +kernel
theorem dX5_undo_21 : decode cX5_undo 21 = .ok (.invokevirtual 226, 3) := by decide +kernel
theorem dX5_undo_24 : decode cX5_undo 24 = .ok (.aload_n 0, 1) := by decide +kernel
theorem dX5_undo_25 : decode cX5_undo 25 = .ok (.getfield 22, 3) := by decide +kernel
theorem dX5_undo_28 : decode cX5_undo 28 = .ok (.getfield 220, 3) := by decide +kernel
theorem dX5_undo_31 : decode cX5_undo 31 = .ok (.ireturn, 1) := by decide +kernel
theorem dX5_type_0 : decode cX5_type 0 = .ok (.iload_n 1, 1) := by decide +kernel
theorem dX5_type_1 : decode cX5_type 1 = .ok (.bipush 32, 2) := by decide +kernel
theorem dX5_type_3 : decode cX5_type 3 = .ok (.bipush 126, 2) := by decide +kernel
theorem dX5_type_5 : decode cX5_type 5 = .ok (.invokestatic 33, 3) := by decide +kernel
theorem dX5_type_8 : decode cX5_type 8 = .ok (.ifCond .ne 6, 3) := by decide +kernel
theorem dX5_type_11 : decode cX5_type 11 = .ok (.ldc 44, 2) := by decide +kernel
theorem dX5_type_13 : decode cX5_type 13 = .ok (.ireturn, 1) := by decide +kernel
theorem dX5_type_14 : decode cX5_type 14 = .ok (.aload_n 0, 1) := by decide +kernel
theorem dX5_type_15 : decode cX5_type 15 = .ok (.getfield 29, 3) := by decide +kernel
theorem dX5_type_18 : decode cX5_type 18 = .ok (.getfield 223, 3) := by decide +kernel
theorem dX5_type_21 : decode cX5_type 21 = .ok (.bipush 80, 2) := by decide +kernel
theorem dX5_type_23 : decode cX5_type 23 = .ok (.if_icmp .lt 6, 3) := by decide +kernel
theorem dX5_type_26 : decode cX5_type 26 = .ok (.ldc 60, 2) := by decide +kernel
theorem dX5_type_28 : decode cX5_type 28 = .ok (.ireturn, 1) := by decide +kernel
theorem dX5_type_29 : decode cX5_type 29 = .ok (.aload_n 0, 1) := by decide +kernel
theorem dX5_type_30 : decode cX5_type 30 = .ok (.getfield 29, 3) := by decide +kernel
theorem dX5_type_33 : decode cX5_type 33 = .ok (.iload_n 1, 1) := by decide +kernel
theorem dX5_type_34 : decode cX5_type 34 = .ok (.i2c, 1) := by decide +kernel
theorem dX5_type_35 : decode cX5_type 35 = .ok (.invokevirtual 229, 3) := by decide +kernel
theorem dX5_type_38 : decode cX5_type 38 = .ok (.aload_n 0, 1) := by decide +kernel
theorem dX5_type_39 : decode cX5_type 39 = .ok (.getfield 29, 3) := by decide +kernel
theorem dX5_type_42 : decode cX5_type 42 = .ok (.getfield 223, 3) := by decide +kernel
theorem dX5_type_45 : decode cX5_type 45 = .ok (.ireturn, 1) := by decide +kernel
theorem dX5_clearText_0 : decode cX5_clearText 0 = .ok (.aload_n 0, 1) := by decide +kernel
theorem dX5_clearText_1 : decode cX5_clearText 1 = .ok (.getfield 29, 3) := by decide +kernel
theorem dX5_clearText_4 : decode cX5_clearText 4 = .ok (.getfield 223, 3) := by decide +kernel
theorem dX5_clearText_7 : decode cX5_clearText 7 = .ok (.istore_n 1, 1) := by decide +kernel
theorem dX5_clearText_8 : decode cX5_clearText 8 = .ok (.aload_n 0, 1) := by decide +kernel
theorem dX5_clearText_9 : decode cX5_clearText 9 = .ok (.getfield 29, 3) := by decide +kernel
theorem dX5_clearText_12 : decode cX5_clearText 12 = .ok (.iconst 0, 1) := by decide +kernel
theorem dX5_clearText_13 : decode cX5_clearText 13 = .ok (.putfield 223, 3) := by decide +kernel
theorem dX5_clearText_16 : decode cX5_clearText 16 = .ok (.iload_n 1, 1) := by decide +kernel
theorem dX5_clearText_17 : decode cX5_clearText 17 = .ok (.ireturn, 1) := by decide +kernel
theorem dX5_fault_0 : decode cX5_fault 0 = .ok (.iload_n 1, 1) := by decide +kernel
theorem dX5_fault_1 : decode cX5_fault 1 = .ok (.iconst 0, 1) := by decide +kernel
theorem dX5_fault_2 : decode cX5_fault 2 = .ok (.iconst 2, 1) := by decide +kernel
theorem dX5_fault_3 : decode cX5_fault 3 = .ok (.invokestatic 33, 3) := by decide +kernel
theorem dX5_fault_6 : decode cX5_fault 6 = .ok (.ifCond .ne 6, 3) := by decide +kernel
theorem dX5_fault_9 : decode cX5_fault 9 = .ok (.ldc 44, 2) := by decide +kernel
theorem dX5_fault_11 : decode cX5_fault 11 = .ok (.ireturn, 1) := by decide +kernel
theorem dX5_fault_12 : decode cX5_fault 12 = .ok (.aload_n 0, 1) := by decide +kernel
theorem dX5_fault_13 : decode cX5_fault 13 = .ok (.getfield 29, 3) := by decide +kernel
theorem dX5_fault_16 : decode cX5_fault 16 = .ok (.invokevirtual 233, 3) := by decide +kernel
theorem dX5_fault_19 : decode cX5_fault 19 = .ok (.ifCond .ne 6, 3) := by decide +kernel
theorem dX5_fault_22 : decode cX5_fault 22 = .ok (.ldc 120, 2) := by decide +kernel
theorem dX5_fault_24 : decode cX5_fault 24 = .ok (.ireturn, 1) := by decide +kernel
theorem dX5_fault_25 : decode cX5_fault 25 = .ok (.iload_n 1, 1) := by decide +kernel
theorem dX5_fault_26 : decode cX5_fault 26 = .ok (.lookupswitch 42 #[(0, 26), (1, 34)], 26) := by decide +kernel
theorem dX5_fault_52 : decode cX5_fault 52 = .ok (.aload_n 0, 1) := by decide +kernel
theorem dX5_fault_53 : decode cX5_fault 53 = .ok (.getfield 29, 3) := by decide +kernel
theorem dX5_fault_56 : decode cX5_fault 56 = .ok (.getfield 236, 3) := by decide +kernel
theorem dX5_fault_59 : decode cX5_fault 59 = .ok (.ireturn, 1) := by decide +kernel
theorem dX5_fault_60 : decode cX5_fault 60 = .ok (.aload_n 0, 1) := by decide +kernel
theorem dX5_fault_61 : decode cX5_fault 61 = .ok (.getfield 29, 3) := by decide +kernel
theorem dX5_fault_64 : decode cX5_fault 64 = .ok (.getfield 239, 3) := by decide +kernel
theorem dX5_fault_67 : decode cX5_fault 67 = .ok (.ireturn, 1) := by decide +kernel
theorem dX5_fault_68 : decode cX5_fault 68 = .ok (.aload_n 0, 1) := by decide +kernel
theorem dX5_fault_69 : decode cX5_fault 69 = .ok (.getfield 29, 3) := by decide +kernel
theorem dX5_fault_72 : decode cX5_fault 72 = .ok (.getfield 242, 3) := by decide +kernel
theorem dX5_fault_75 : decode cX5_fault 75 = .ok (.ireturn, 1) := by decide +kernel
theorem dX5_play_0 : decode cX5_play 0 = .ok (.aload_n 0, 1) := by decide +kernel
theorem dX5_play_1 : decode cX5_play 1 = .ok (.getfield 29, 3) := by decide +kernel
theorem dX5_play_4 : decode cX5_play 4 = .ok (.invokevirtual 233, 3) := by decide +kernel
theorem dX5_play_7 : decode cX5_play 7 = .ok (.ifCond .eq 6, 3) := by decide +kernel
theorem dX5_play_10 : decode cX5_play 10 = .ok (.ldc 83, 2) := by decide +kernel
theorem dX5_play_12 : decode cX5_play 12 = .ok (.ireturn, 1) := by decide +kernel
theorem dX5_play_13 : decode cX5_play 13 = .ok (.aload_n 0, 1) := by decide +kernel
theorem dX5_play_14 : decode cX5_play 14 = .ok (.getfield 22, 3) := by decide +kernel
theorem dX5_play_17 : decode cX5_play 17 = .ok (.aload_n 0, 1) := by decide +kernel
theorem dX5_play_18 : decode cX5_play 18 = .ok (.getfield 10, 3) := by decide +kernel
theorem dX5_play_21 : decode cX5_play 21 = .ok (.invokevirtual 45, 3) := by decide +kernel
theorem dX5_play_24 : decode cX5_play 24 = .ok (.iconst 0, 1) := by decide +kernel
theorem dX5_play_25 : decode cX5_play 25 = .ok (.istore_n 1, 1) := by decide +kernel
theorem dX5_play_26 : decode cX5_play 26 = .ok (.iconst 0, 1) := by decide +kernel
theorem dX5_play_27 : decode cX5_play 27 = .ok (.istore_n 2, 1) := by decide +kernel
theorem dX5_play_28 : decode cX5_play 28 = .ok (.iconst 0, 1) := by decide +kernel
theorem dX5_play_29 : decode cX5_play 29 = .ok (.istore_n 3, 1) := by decide +kernel
theorem dX5_play_30 : decode cX5_play 30 = .ok (.iload_n 3, 1) := by decide +kernel
theorem dX5_play_31 : decode cX5_play 31 = .ok (.bipush 80, 2) := by decide +kernel
theorem dX5_play_33 : decode cX5_play 33 = .ok (.if_icmp .ge 43, 3) := by decide +kernel
theorem dX5_play_36 : decode cX5_play 36 = .ok (.iload_n 2, 1) := by decide +kernel
theorem dX5_play_37 : decode cX5_play 37 = .ok (.aload_n 0, 1) := by decide +kernel
theorem dX5_play_38 : decode cX5_play 38 = .ok (.getfield 29, 3) := by decide +kernel
theorem dX5_play_41 : decode cX5_play 41 = .ok (.getfield 223, 3) := by decide +kernel
theorem dX5_play_44 : decode cX5_play 44 = .ok (.if_icmp .ge 32, 3) := by decide +kernel
theorem dX5_play_47 : decode cX5_play 47 = .ok (.aload_n 0, 1) := by decide +kernel
theorem dX5_play_48 : decode cX5_play 48 = .ok (.getfield 29, 3) := by decide +kernel
theorem dX5_play_51 : decode cX5_play 51 = .ok (.iload_n 2, 1) := by decide +kernel
theorem dX5_play_52 : decode cX5_play 52 = .ok (.invokevirtual 245, 3) := by decide +kernel
theorem dX5_play_55 : decode cX5_play 55 = .ok (.iload_n 1, 1) := by decide +kernel
theorem dX5_play_56 : decode cX5_play 56 = .ok (.aload_n 0, 1) := by decide +kernel
theorem dX5_play_57 : decode cX5_play 57 = .ok (.invokevirtual 248, 3) := by decide +kernel
theorem dX5_play_60 : decode cX5_play 60 = .ok (.iadd, 1) := by decide +kernel
theorem dX5_play_61 : decode cX5_play 61 = .ok (.istore_n 1, 1) := by decide +kernel
theorem dX5_play_62 : decode cX5_play 62 = .ok (.aload_n 0, 1) := by decide +kernel
theorem dX5_play_63 : decode cX5_play 63 = .ok (.getfield 29, 3) := by decide +kernel
theorem dX5_play_66 : decode cX5_play 66 = .ok (.getfield 251, 3) := by decide +kernel
theorem dX5_play_69 : decode cX5_play 69 = .ok (.istore_n 2, 1) := by decide +kernel
theorem dX5_play_70 : decode cX5_play 70 = .ok (.iinc 3 1, 3) := by decide +kernel
theorem dX5_play_73 : decode cX5_play 73 = .ok (.goto (-43), 3) := by decide +kernel
theorem dX5_play_76 : decode cX5_play 76 = .ok (.iload_n 1, 1) := by decide +kernel
theorem dX5_play_77 : decode cX5_play 77 = .ok (.ireturn, 1) := by decide +kernel
theorem dX5_isWithin_0 : decode cX5_isWithin 0 = .ok (.iload_n 0, 1) := by decide +kernel
theorem dX5_isWithin_1 : decode cX5_isWithin 1 = .ok (.iload_n 1, 1) := by decide +kernel
theorem dX5_isWithin_2 : decode cX5_isWithin 2 = .ok (.if_icmp .lt 12, 3) := by decide +kernel
theorem dX5_isWithin_5 : decode cX5_isWithin 5 = .ok (.iload_n 0, 1) := by decide +kernel
theorem dX5_isWithin_6 : decode cX5_isWithin 6 = .ok (.iload_n 2, 1) := by decide +kernel
theorem dX5_isWithin_7 : decode cX5_isWithin 7 = .ok (.if_icmp .gt 7, 3) := by decide +kernel
theorem dX5_isWithin_10 : decode cX5_isWithin 10 = .ok (.iconst 1, 1) := by decide +kernel
theorem dX5_isWithin_11 : decode cX5_isWithin 11 = .ok (.goto 4, 3) := by decide +kernel
theorem dX5_isWithin_14 : decode cX5_isWithin 14 = .ok (.iconst 0, 1) := by decide +kernel
theorem dX5_isWithin_15 : decode cX5_isWithin 15 = .ok (.ireturn, 1) := by decide +kernel
theorem dX5_isAddress_0 : decode cX5_isAddress 0 = .ok (.iload_n 0, 1) := by decide +kernel
theorem dX5_isAddress_1 : decode cX5_isAddress 1 = .ok (.iconst 0, 1) := by decide +kernel
theorem dX5_isAddress_2 : decode cX5_isAddress 2 = .ok (.bipush 63, 2) := by decide +kernel
theorem dX5_isAddress_4 : decode cX5_isAddress 4 = .ok (.invokestatic 33, 3) := by decide +kernel
theorem dX5_isAddress_7 : decode cX5_isAddress 7 = .ok (.ireturn, 1) := by decide +kernel
theorem dX5_isOracle_0 : decode cX5_isOracle 0 = .ok (.iload_n 1, 1) := by decide +kernel
theorem dX5_isOracle_1 : decode cX5_isOracle 1 = .ok (.iconst 0, 1) := by decide +kernel
theorem dX5_isOracle_2 : decode cX5_isOracle 2 = .ok (.aload_n 0, 1) := by decide +kernel
theorem dX5_isOracle_3 : decode cX5_isOracle 3 = .ok (.getfield 10, 3) := by decide +kernel
theorem dX5_isOracle_6 : decode cX5_isOracle 6 = .ok (.getfield 56, 3) := by decide +kernel
theorem dX5_isOracle_9 : decode cX5_isOracle 9 = .ok (.iconst 1, 1) := by decide +kernel
theorem dX5_isOracle_10 : decode cX5_isOracle 10 = .ok (.isub, 1) := by decide +kernel
theorem dX5_isOracle_11 : decode cX5_isOracle 11 = .ok (.invokestatic 33, 3) := by decide +kernel
theorem dX5_isOracle_14 : decode cX5_isOracle 14 = .ok (.ireturn, 1) := by decide +kernel
theorem dX5_mostNumberOf_0 : decode cX5_mostNumberOf 0 = .ok (.iload_n 0, 1) := by decide +kernel
theorem dX5_mostNumberOf_1 : decode cX5_mostNumberOf 1 = .ok (.ifCond .ne 5, 3) := by decide +kernel
theorem dX5_mostNumberOf_4 : decode cX5_mostNumberOf 4 = .ok (.iconst 1, 1) := by decide +kernel
theorem dX5_mostNumberOf_5 : decode cX5_mostNumberOf 5 = .ok (.ireturn, 1) := by decide +kernel
theorem dX5_mostNumberOf_6 : decode cX5_mostNumberOf 6 = .ok (.iload_n 0, 1) := by decide +kernel
theorem dX5_mostNumberOf_7 : decode cX5_mostNumberOf 7 = .ok (.iconst 4, 1) := by decide +kernel
theorem dX5_mostNumberOf_8 : decode cX5_mostNumberOf 8 = .ok (.if_icmp .ne 7, 3) := by decide +kernel
theorem dX5_mostNumberOf_11 : decode cX5_mostNumberOf 11 = .ok (.iconst 0, 1) := by decide +kernel
theorem dX5_mostNumberOf_12 : decode cX5_mostNumberOf 12 = .ok (.goto 4, 3) := by decide +kernel
theorem dX5_mostNumberOf_15 : decode cX5_mostNumberOf 15 = .ok (.iconst 5, 1) := by decide +kernel
theorem dX5_mostNumberOf_16 : decode cX5_mostNumberOf 16 = .ok (.ireturn, 1) := by decide +kernel
theorem dX5_takes_0 : decode cX5_takes 0 = .ok (.iload_n 0, 1) := by decide +kernel
theorem dX5_takes_1 : decode cX5_takes 1 = .ok (.ifCond .ne 16, 3) := by decide +kernel
theorem dX5_takes_4 : decode cX5_takes 4 = .ok (.aload_n 1, 1) := by decide +kernel
theorem dX5_takes_5 : decode cX5_takes 5 = .ok (.getfield 114, 3) := by decide +kernel
theorem dX5_takes_8 : decode cX5_takes 8 = .ok (.ifCond .ne 7, 3) := by decide +kernel
theorem dX5_takes_11 : decode cX5_takes 11 = .ok (.iconst 1, 1) := by decide +kernel
theorem dX5_takes_12 : decode cX5_takes 12 = .ok (.goto 4, 3) := by decide +kernel
theorem dX5_takes_15 : decode cX5_takes 15 = .ok (.iconst 0, 1) := by decide +kernel
theorem dX5_takes_16 : decode cX5_takes 16 = .ok (.ireturn, 1) := by decide +kernel
theorem dX5_takes_17 : decode cX5_takes 17 = .ok (.iload_n 0, 1) := by decide +kernel
theorem dX5_takes_18 : decode cX5_takes 18 = .ok (.iconst 1, 1) := by decide +kernel
theorem dX5_takes_19 : decode cX5_takes 19 = .ok (.if_icmp .ne 10, 3) := by decide +kernel
theorem dX5_takes_22 : decode cX5_takes 22 = .ok (.aload_n 1, 1) := by decide +kernel
theorem dX5_takes_23 : decode cX5_takes 23 = .ok (.invokevirtual 161, 3) := by decide +kernel
theorem dX5_takes_26 : decode cX5_takes 26 = .ok (.ifCond .eq 7, 3) := by decide +kernel
theorem dX5_takes_29 : decode cX5_takes 29 = .ok (.iconst 1, 1) := by decide +kernel
theorem dX5_takes_30 : decode cX5_takes 30 = .ok (.goto 4, 3) := by decide +kernel
theorem dX5_takes_33 : decode cX5_takes 33 = .ok (.iconst 0, 1) := by decide +kernel
theorem dX5_takes_34 : decode cX5_takes 34 = .ok (.ireturn, 1) := by decide +kernel
theorem dX5_bitsOfQuotient_0 : decode cX5_bitsOfQuotient 0 = .ok (.iload_n 0, 1) := by decide +kernel
theorem dX5_bitsOfQuotient_1 : decode cX5_bitsOfQuotient 1 = .ok (.ifCond .le 7, 3) := by decide +kernel
theorem dX5_bitsOfQuotient_4 : decode cX5_bitsOfQuotient 4 = .ok (.iload_n 1, 1) := by decide +kernel
theorem dX5_bitsOfQuotient_5 : decode cX5_bitsOfQuotient 5 = .ok (.ifCond .gt 5, 3) := by decide +kernel
theorem dX5_bitsOfQuotient_8 : decode cX5_bitsOfQuotient 8 = .ok (.iconst 0, 1) := by decide +kernel
theorem dX5_bitsOfQuotient_9 : decode cX5_bitsOfQuotient 9 = .ok (.ireturn, 1) := by decide +kernel
theorem dX5_bitsOfQuotient_10 : decode cX5_bitsOfQuotient 10 = .ok (.iload_n 0, 1) := by decide +kernel
theorem dX5_bitsOfQuotient_11 : decode cX5_bitsOfQuotient 11 = .ok (.i2f, 1) := by decide +kernel
theorem dX5_bitsOfQuotient_12 : decode cX5_bitsOfQuotient 12 = .ok (.iload_n 1, 1) := by decide +kernel
theorem dX5_bitsOfQuotient_13 : decode cX5_bitsOfQuotient 13 = .ok (.i2f, 1) := by decide +kernel
theorem dX5_bitsOfQuotient_14 : decode cX5_bitsOfQuotient 14 = .ok (.fdiv, 1) := by decide +kernel
theorem dX5_bitsOfQuotient_15 : decode cX5_bitsOfQuotient 15 = .ok (.fstore_n 2, 1) := by decide +kernel
theorem dX5_bitsOfQuotient_16 : decode cX5_bitsOfQuotient 16 = .ok (.bipush 127, 2) := by decide +kernel
theorem dX5_bitsOfQuotient_18 : decode cX5_bitsOfQuotient 18 = .ok (.istore_n 3, 1) := by decide +kernel
theorem dX5_bitsOfQuotient_19 : decode cX5_bitsOfQuotient 19 = .ok (.iconst 0, 1) := by decide +kernel
theorem dX5_bitsOfQuotient_20 : decode cX5_bitsOfQuotient 20 = .ok (.istore 4, 2) := by decide +kernel
theorem dX5_bitsOfQuotient_22 : decode cX5_bitsOfQuotient 22 = .ok (.iload 4, 2) := by decide +kernel
theorem dX5_bitsOfQuotient_24 : decode cX5_bitsOfQuotient 24 = .ok (.bipush 126, 2) := by decide +kernel
theorem dX5_bitsOfQuotient_26 : decode cX5_bitsOfQuotient 26 = .ok (.if_icmp .ge 22, 3) := by decide +kernel
theorem dX5_bitsOfQuotient_29 : decode cX5_bitsOfQuotient 29 = .ok (.fload_n 2, 1) := by decide +kernel
theorem dX5_bitsOfQuotient_30 : decode cX5_bitsOfQuotient 30 = .ok (.fconst 1, 1) := by decide +kernel
theorem dX5_bitsOfQuotient_31 : decode cX5_bitsOfQuotient 31 = .ok (.fcmp .g, 1) := by decide +kernel
theorem dX5_bitsOfQuotient_32 : decode cX5_bitsOfQuotient 32 = .ok (.ifCond .ge 16, 3) := by decide +kernel
theorem dX5_bitsOfQuotient_35 : decode cX5_bitsOfQuotient 35 = .ok (.fload_n 2, 1) := by decide +kernel
theorem dX5_bitsOfQuotient_36 : decode cX5_bitsOfQuotient 36 = .ok (.fconst 2, 1) := by decide +kernel
theorem dX5_bitsOfQuotient_37 : decode cX5_bitsOfQuotient 37 = .ok (.fmul, 1) := by decide +kernel
theorem dX5_bitsOfQuotient_38 : decode cX5_bitsOfQuotient 38 = .ok (.fstore_n 2, 1) := by decide +kernel
theorem dX5_bitsOfQuotient_39 : decode cX5_bitsOfQuotient 39 = .ok (.iinc 3 (-1), 3) := by decide +kernel
theorem dX5_bitsOfQuotient_42 : decode cX5_bitsOfQuotient 42 = .ok (.iinc 4 1, 3) := by decide +kernel
theorem dX5_bitsOfQuotient_45 : decode cX5_bitsOfQuotient 45 = .ok (.goto (-23), 3) := by decide +kernel
theorem dX5_bitsOfQuotient_48 : decode cX5_bitsOfQuotient 48 = .ok (.iload_n 3, 1) := by decide +kernel
theorem dX5_bitsOfQuotient_49 : decode cX5_bitsOfQuotient 49 = .ok (.bipush 23, 2) := by decide +kernel
theorem dX5_bitsOfQuotient_51 : decode cX5_bitsOfQuotient 51 = .ok (.ishl, 1) := by decide +kernel
theorem dX5_bitsOfQuotient_52 : decode cX5_bitsOfQuotient 52 = .ok (.fload_n 2, 1) := by decide +kernel
theorem dX5_bitsOfQuotient_53 : decode cX5_bitsOfQuotient 53 = .ok (.ldc 254, 2) := by decide +kernel
theorem dX5_bitsOfQuotient_55 : decode cX5_bitsOfQuotient 55 = .ok (.fmul, 1) := by decide +kernel
theorem dX5_bitsOfQuotient_56 : decode cX5_bitsOfQuotient 56 = .ok (.f2i, 1) := by decide +kernel
theorem dX5_bitsOfQuotient_57 : decode cX5_bitsOfQuotient 57 = .ok (.ldc 255, 2) := by decide +kernel
theorem dX5_bitsOfQuotient_59 : decode cX5_bitsOfQuotient 59 = .ok (.isub, 1) := by decide +kernel
theorem dX5_bitsOfQuotient_60 : decode cX5_bitsOfQuotient 60 = .ok (.iadd, 1) := by decide +kernel
theorem dX5_bitsOfQuotient_61 : decode cX5_bitsOfQuotient 61 = .ok (.ireturn, 1) := by decide +kernel
theorem dX5_purseBehind_0 : decode cX5_purseBehind 0 = .ok (.aload_n 0, 1) := by decide +kernel
theorem dX5_purseBehind_1 : decode cX5_purseBehind 1 = .ok (.getfield 16, 3) := by decide +kernel
theorem dX5_purseBehind_4 : decode cX5_purseBehind 4 = .ok (.aload_n 0, 1) := by decide +kernel
theorem dX5_purseBehind_5 : decode cX5_purseBehind 5 = .ok (.getfield 10, 3) := by decide +kernel
theorem dX5_purseBehind_8 : decode cX5_purseBehind 8 = .ok (.invokevirtual 192, 3) := by decide +kernel
theorem dX5_purseBehind_11 : decode cX5_purseBehind 11 = .ok (.iload 4, 2) := by decide +kernel
theorem dX5_purseBehind_13 : decode cX5_purseBehind 13 = .ok (.iconst 1, 1) := by decide +kernel
theorem dX5_purseBehind_14 : decode cX5_purseBehind 14 = .ok (.isub, 1) := by decide +kernel
theorem dX5_purseBehind_15 : decode cX5_purseBehind 15 = .ok (.istore 5, 2) := by decide +kernel
theorem dX5_purseBehind_17 : decode cX5_purseBehind 17 = .ok (.iload 5, 2) := by decide +kernel
theorem dX5_purseBehind_19 : decode cX5_purseBehind 19 = .ok (.ifCond .lt 24, 3) := by decide +kernel
theorem dX5_purseBehind_22 : decode cX5_purseBehind 22 = .ok (.aload_n 0, 1) := by decide +kernel
theorem dX5_purseBehind_23 : decode cX5_purseBehind 23 = .ok (.getfield 16, 3) := by decide +kernel
theorem dX5_purseBehind_26 : decode cX5_purseBehind 26 = .ok (.iload_n 3, 1) := by decide +kernel
theorem dX5_purseBehind_27 : decode cX5_purseBehind 27 = .ok (.iload_n 1, 1) := by decide +kernel
theorem dX5_purseBehind_28 : decode cX5_purseBehind 28 = .ok (.iload 5, 2) := by decide +kernel
theorem dX5_purseBehind_30 : decode cX5_purseBehind 30 = .ok (.ishr, 1) := by decide +kernel
theorem dX5_purseBehind_31 : decode cX5_purseBehind 31 = .ok (.iconst 1, 1) := by decide +kernel
theorem dX5_purseBehind_32 : decode cX5_purseBehind 32 = .ok (.iand, 1) := by decide +kernel
theorem dX5_purseBehind_33 : decode cX5_purseBehind 33 = .ok (.invokevirtual 110, 3) := by decide +kernel
theorem dX5_purseBehind_36 : decode cX5_purseBehind 36 = .ok (.pop, 1) := by decide +kernel
theorem dX5_purseBehind_37 : decode cX5_purseBehind 37 = .ok (.iinc 5 (-1), 3) := by decide +kernel
theorem dX5_purseBehind_40 : decode cX5_purseBehind 40 = .ok (.goto (-23), 3) := by decide +kernel
theorem dX5_purseBehind_43 : decode cX5_purseBehind 43 = .ok (.aload_n 0, 1) := by decide +kernel
theorem dX5_purseBehind_44 : decode cX5_purseBehind 44 = .ok (.getfield 16, 3) := by decide +kernel
theorem dX5_purseBehind_47 : decode cX5_purseBehind 47 = .ok (.getfield 61, 3) := by decide +kernel
theorem dX5_purseBehind_50 : decode cX5_purseBehind 50 = .ok (.iload_n 2, 1) := by decide +kernel
theorem dX5_purseBehind_51 : decode cX5_purseBehind 51 = .ok (.aaload, 1) := by decide +kernel
theorem dX5_purseBehind_52 : decode cX5_purseBehind 52 = .ok (.getfield 96, 3) := by decide +kernel
theorem dX5_purseBehind_55 : decode cX5_purseBehind 55 = .ok (.ireturn, 1) := by decide +kernel
theorem dX5_doOrderRead_0 : decode cX5_doOrderRead 0 = .ok (.aload_n 0, 1) := by decide +kernel
theorem dX5_doOrderRead_1 : decode cX5_doOrderRead 1 = .ok (.getfield 29, 3) := by decide +kernel
theorem dX5_doOrderRead_4 : decode cX5_doOrderRead 4 = .ok (.getfield 256, 3) := by decide +kernel
theorem dX5_doOrderRead_7 : decode cX5_doOrderRead 7 = .ok (.iconst 4, 1) := by decide +kernel
theorem dX5_doOrderRead_8 : decode cX5_doOrderRead 8 = .ok (.if_icmp .ne 23, 3) := by decide +kernel
theorem dX5_doOrderRead_11 : decode cX5_doOrderRead 11 = .ok (.aload_n 0, 1) := by decide +kernel
theorem dX5_doOrderRead_12 : decode cX5_doOrderRead 12 = .ok (.getfield 10, 3) := by decide +kernel
theorem dX5_doOrderRead_15 : decode cX5_doOrderRead 15 = .ok (.getfield 49, 3) := by decide +kernel
theorem dX5_doOrderRead_18 : decode cX5_doOrderRead 18 = .ok (.iconst 1, 1) := by decide +kernel
theorem dX5_doOrderRead_19 : decode cX5_doOrderRead 19 = .ok (.aload_n 0, 1) := by decide +kernel
theorem dX5_doOrderRead_20 : decode cX5_doOrderRead 20 = .ok (.getfield 29, 3) := by decide +kernel
theorem dX5_doOrderRead_23 : decode cX5_doOrderRead 23 = .ok (.getfield 259, 3) := by decide +kernel
theorem dX5_doOrderRead_26 : decode cX5_doOrderRead 26 = .ok (.iconst 0, 1) := by decide +kernel
theorem dX5_doOrderRead_27 : decode cX5_doOrderRead 27 = .ok (.iaload, 1) := by decide +kernel
theorem dX5_doOrderRead_28 : decode cX5_doOrderRead 28 = .ok (.iastore, 1) := by decide +kernel
theorem dX5_doOrderRead_29 : decode cX5_doOrderRead 29 = .ok (.iconst 0, 1) := by decide +kernel
theorem dX5_doOrderRead_30 : decode cX5_doOrderRead 30 = .ok (.ireturn, 1) := by decide +kernel
theorem dX5_doOrderRead_31 : decode cX5_doOrderRead 31 = .ok (.aload_n 0, 1) := by decide +kernel
theorem dX5_doOrderRead_32 : decode cX5_doOrderRead 32 = .ok (.getfield 29, 3) := by decide +kernel
theorem dX5_doOrderRead_35 : decode cX5_doOrderRead 35 = .ok (.getfield 259, 3) := by decide +kernel
theorem dX5_doOrderRead_38 : decode cX5_doOrderRead 38 = .ok (.iconst 0, 1) := by decide +kernel
theorem dX5_doOrderRead_39 : decode cX5_doOrderRead 39 = .ok (.iaload, 1) := by decide +kernel
theorem dX5_doOrderRead_40 : decode cX5_doOrderRead 40 = .ok (.istore_n 1, 1) := by decide +kernel
theorem dX5_doOrderRead_41 : decode cX5_doOrderRead 41 = .ok (.aload_n 0, 1) := by decide +kernel
theorem dX5_doOrderRead_42 : decode cX5_doOrderRead 42 = .ok (.getfield 29, 3) := by decide +kernel
theorem dX5_doOrderRead_45 : decode cX5_doOrderRead 45 = .ok (.getfield 259, 3) := by decide +kernel
theorem dX5_doOrderRead_48 : decode cX5_doOrderRead 48 = .ok (.iconst 1, 1) := by decide +kernel
theorem dX5_doOrderRead_49 : decode cX5_doOrderRead 49 = .ok (.iaload, 1) := by decide +kernel
theorem dX5_doOrderRead_50 : decode cX5_doOrderRead 50 = .ok (.istore_n 2, 1) := by decide +kernel
theorem dX5_doOrderRead_51 : decode cX5_doOrderRead 51 = .ok (.iconst 0, 1) := by decide +kernel
theorem dX5_doOrderRead_52 : decode cX5_doOrderRead 52 = .ok (.istore_n 3, 1) := by decide +kernel
theorem dX5_doOrderRead_53 : decode cX5_doOrderRead 53 = .ok (.iload_n 3, 1) := by decide +kernel
theorem dX5_doOrderRead_54 : decode cX5_doOrderRead 54 = .ok (.iload_n 2, 1) := by decide +kernel
theorem dX5_doOrderRead_55 : decode cX5_doOrderRead 55 = .ok (.if_icmp .ge 30, 3) := by decide +kernel
theorem dX5_doOrderRead_58 : decode cX5_doOrderRead 58 = .ok (.aload_n 0, 1) := by decide +kernel
theorem dX5_doOrderRead_59 : decode cX5_doOrderRead 59 = .ok (.getfield 10, 3) := by decide +kernel
theorem dX5_doOrderRead_62 : decode cX5_doOrderRead 62 = .ok (.iload_n 1, 1) := by decide +kernel
theorem dX5_doOrderRead_63 : decode cX5_doOrderRead 63 = .ok (.aload_n 0, 1) := by decide +kernel
theorem dX5_doOrderRead_64 : decode cX5_doOrderRead 64 = .ok (.getfield 29, 3) := by decide +kernel
theorem dX5_doOrderRead_67 : decode cX5_doOrderRead 67 = .ok (.getfield 256, 3) := by decide +kernel
theorem dX5_doOrderRead_70 : decode cX5_doOrderRead 70 = .ok (.iload_n 3, 1) := by decide +kernel
theorem dX5_doOrderRead_71 : decode cX5_doOrderRead 71 = .ok (.iload_n 2, 1) := by decide +kernel
theorem dX5_doOrderRead_72 : decode cX5_doOrderRead 72 = .ok (.invokestatic 262, 3) := by decide +kernel
theorem dX5_doOrderRead_75 : decode cX5_doOrderRead 75 = .ok (.invokevirtual 110, 3) := by decide +kernel
theorem dX5_doOrderRead_78 : decode cX5_doOrderRead 78 = .ok (.pop, 1) := by decide +kernel
theorem dX5_doOrderRead_79 : decode cX5_doOrderRead 79 = .ok (.iinc 3 1, 3) := by decide +kernel
theorem dX5_doOrderRead_82 : decode cX5_doOrderRead 82 = .ok (.goto (-29), 3) := by decide +kernel
theorem dX5_doOrderRead_85 : decode cX5_doOrderRead 85 = .ok (.iload_n 2, 1) := by decide +kernel
theorem dX5_doOrderRead_86 : decode cX5_doOrderRead 86 = .ok (.ireturn, 1) := by decide +kernel
theorem dX5_wayOf_0 : decode cX5_wayOf 0 = .ok (.iload_n 0, 1) := by decide +kernel
theorem dX5_wayOf_1 : decode cX5_wayOf 1 = .ok (.tableswitch 52 0 3 #[31, 52, 33, 39], 31) := by decide +kernel
theorem dX5_wayOf_32 : decode cX5_wayOf 32 = .ok (.iconst 1, 1) := by decide +kernel
theorem dX5_wayOf_33 : decode cX5_wayOf 33 = .ok (.ireturn, 1) := by decide +kernel
theorem dX5_wayOf_34 : decode cX5_wayOf 34 = .ok (.iconst 1, 1) := by decide +kernel
theorem dX5_wayOf_35 : decode cX5_wayOf 35 = .ok (.iload_n 1, 1) := by decide +kernel
theorem dX5_wayOf_36 : decode cX5_wayOf 36 = .ok (.iconst 1, 1) := by decide +kernel
theorem dX5_wayOf_37 : decode cX5_wayOf 37 = .ok (.iand, 1) := by decide +kernel
theorem dX5_wayOf_38 : decode cX5_wayOf 38 = .ok (.isub, 1) := by decide +kernel
theorem dX5_wayOf_39 : decode cX5_wayOf 39 = .ok (.ireturn, 1) := by decide +kernel
theorem dX5_wayOf_40 : decode cX5_wayOf 40 = .ok (.iload_n 1, 1) := by decide +kernel
theorem dX5_wayOf_41 : decode cX5_wayOf 41 = .ok (.iload_n 2, 1) := by decide +kernel
theorem dX5_wayOf_42 : decode cX5_wayOf 42 = .ok (.iconst 1, 1) := by decide +kernel
theorem dX5_wayOf_43 : decode cX5_wayOf 43 = .ok (.isub, 1) := by decide +kernel
theorem dX5_wayOf_44 : decode cX5_wayOf 44 = .ok (.if_icmp .ge 7, 3) := by decide +kernel
theorem dX5_wayOf_47 : decode cX5_wayOf 47 = .ok (.iconst 1, 1) := by decide +kernel
theorem dX5_wayOf_48 : decode cX5_wayOf 48 = .ok (.goto 4, 3) := by decide +kernel
theorem dX5_wayOf_51 : decode cX5_wayOf 51 = .ok (.iconst 0, 1) := by decide +kernel
theorem dX5_wayOf_52 : decode cX5_wayOf 52 = .ok (.ireturn, 1) := by decide +kernel
theorem dX5_wayOf_53 : decode cX5_wayOf 53 = .ok (.iconst 0, 1) := by decide +kernel
theorem dX5_wayOf_54 : decode cX5_wayOf 54 = .ok (.ireturn, 1) := by decide +kernel
theorem dL_law_0 : decode cL_law 0 = .ok (.new 7, 3) := by decide +kernel
theorem dL_law_3 : decode cL_law 3 = .ok (.dup, 1) := by decide +kernel
theorem dL_law_4 : decode cL_law 4 = .ok (.invokespecial 9, 3) := by decide +kernel
theorem dL_law_7 : decode cL_law 7 = .ok (.astore_n 1, 1) := by decide +kernel
theorem dL_law_8 : decode cL_law 8 = .ok (.new 10, 3) := by decide +kernel
theorem dL_law_11 : decode cL_law 11 = .ok (.dup, 1) := by decide +kernel
theorem dL_law_12 : decode cL_law 12 = .ok (.invokespecial 12, 3) := by decide +kernel
theorem dL_law_15 : decode cL_law 15 = .ok (.astore_n 2, 1) := by decide +kernel
theorem dL_law_16 : decode cL_law 16 = .ok (.iconst 0, 1) := by decide +kernel
theorem dL_law_17 : decode cL_law 17 = .ok (.istore_n 3, 1) := by decide +kernel
theorem dL_law_18 : decode cL_law 18 = .ok (.iload_n 3, 1) := by decide +kernel
theorem dL_law_19 : decode cL_law 19 = .ok (.aload_n 0, 1) := by decide +kernel
theorem dL_law_20 : decode cL_law 20 = .ok (.arraylength, 1) := by decide +kernel
theorem dL_law_21 : decode cL_law 21 = .ok (.iconst 5, 1) := by decide +kernel
theorem dL_law_22 : decode cL_law 22 = .ok (.isub, 1) := by decide +kernel
theorem dL_law_23 : decode cL_law 23 = .ok (.if_icmp .gt 886, 3) := by decide +kernel
theorem dL_law_26 : decode cL_law 26 = .ok (.aload_n 0, 1) := by decide +kernel
theorem dL_law_27 : decode cL_law 27 = .ok (.iload_n 3, 1) := by decide +kernel
theorem dL_law_28 : decode cL_law 28 = .ok (.iaload, 1) := by decide +kernel
theorem dL_law_29 : decode cL_law 29 = .ok (.bipush 31, 2) := by decide +kernel
theorem dL_law_31 : decode cL_law 31 = .ok (.iand, 1) := by decide +kernel
theorem dL_law_32 : decode cL_law 32 = .ok (.tableswitch 871 0 24 #[116, 149, 192, 225, 248, 281, 324, 357, 390, 423, 456, 489, 512, 535, 568, 601, 624, 667, 710, 763, 786, 799, 822, 835, 858], 116) := by decide +kernel
theorem dL_law_148 : decode cL_law 148 = .ok (.aload_n 1, 1) := by decide +kernel
theorem dL_law_149 : decode cL_law 149 = .ok (.aload_n 0, 1) := by decide +kernel
theorem dL_law_150 : decode cL_law 150 = .ok (.iload_n 3, 1) := by decide +kernel
theorem dL_law_151 : decode cL_law 151 = .ok (.iconst 1, 1) := by decide +kernel
theorem dL_law_152 : decode cL_law 152 = .ok (.iadd, 1) := by decide +kernel
theorem dL_law_153 : decode cL_law 153 = .ok (.iaload, 1) := by decide +kernel
theorem dL_law_154 : decode cL_law 154 = .ok (.aload_n 0, 1) := by decide +kernel
theorem dL_law_155 : decode cL_law 155 = .ok (.iload_n 3, 1) := by decide +kernel
theorem dL_law_156 : decode cL_law 156 = .ok (.iconst 2, 1) := by decide +kernel
theorem dL_law_157 : decode cL_law 157 = .ok (.iadd, 1) := by decide +kernel
theorem dL_law_158 : decode cL_law 158 = .ok (.iaload, 1) := by decide +kernel
theorem dL_law_159 : decode cL_law 159 = .ok (.invokevirtual 13, 3) := by decide +kernel
theorem dL_law_162 : decode cL_law 162 = .ok (.aload_n 2, 1) := by decide +kernel
theorem dL_law_163 : decode cL_law 163 = .ok (.aload_n 0, 1) := by decide +kernel
theorem dL_law_164 : decode cL_law 164 = .ok (.iload_n 3, 1) := by decide +kernel
theorem dL_law_165 : decode cL_law 165 = .ok (.iconst 1, 1) := by decide +kernel
theorem dL_law_166 : decode cL_law 166 = .ok (.iadd, 1) := by decide +kernel
theorem dL_law_167 : decode cL_law 167 = .ok (.iaload, 1) := by decide +kernel
theorem dL_law_168 : decode cL_law 168 = .ok (.aload_n 0, 1) := by decide +kernel
theorem dL_law_169 : decode cL_law 169 = .ok (.iload_n 3, 1) := by decide +kernel
theorem dL_law_170 : decode cL_law 170 = .ok (.iconst 2, 1) := by decide +kernel
theorem dL_law_171 : decode cL_law 171 = .ok (.iadd, 1) := by decide +kernel
theorem dL_law_172 : decode cL_law 172 = .ok (.iaload, 1) := by decide +kernel
theorem dL_law_173 : decode cL_law 173 = .ok (.invokevirtual 17, 3) := by decide +kernel
theorem dL_law_176 : decode cL_law 176 = .ok (.if_icmp .eq 727, 3) := by decide +kernel
theorem dL_law_179 : decode cL_law 179 = .ok (.iconst 0, 1) := by decide +kernel
theorem dL_law_180 : decode cL_law 180 = .ok (.ireturn, 1) := by decide +kernel
theorem dL_law_181 : decode cL_law 181 = .ok (.aload_n 1, 1) := by decide +kernel
theorem dL_law_182 : decode cL_law 182 = .ok (.aload_n 0, 1) := by decide +kernel
theorem dL_law_183 : decode cL_law 183 = .ok (.iload_n 3, 1) := by decide +kernel
theorem dL_law_184 : decode cL_law 184 = .ok (.iconst 1, 1) := by decide +kernel
theorem dL_law_185 : decode cL_law 185 = .ok (.iadd, 1) := by decide +kernel
theorem dL_law_186 : decode cL_law 186 = .ok (.iaload, 1) := by decide +kernel
theorem dL_law_187 : decode cL_law 187 = .ok (.aload_n 0, 1) := by decide +kernel
theorem dL_law_188 : decode cL_law 188 = .ok (.iload_n 3, 1) := by decide +kernel
theorem dL_law_189 : decode cL_law 189 = .ok (.iconst 2, 1) := by decide +kernel
theorem dL_law_190 : decode cL_law 190 = .ok (.iadd, 1) := by decide +kernel
theorem dL_law_191 : decode cL_law 191 = .ok (.iaload, 1) := by decide +kernel
theorem dL_law_192 : decode cL_law 192 = .ok (.aload_n 0, 1) := by decide +kernel
theorem dL_law_193 : decode cL_law 193 = .ok (.iload_n 3, 1) := by decide +kernel
theorem dL_law_194 : decode cL_law 194 = .ok (.iconst 3, 1) := by decide +kernel
theorem dL_law_195 : decode cL_law 195 = .ok (.iadd, 1) := by decide +kernel
theorem dL_law_196 : decode cL_law 196 = .ok (.iaload, 1) := by decide +kernel
theorem dL_law_197 : decode cL_law 197 = .ok (.invokevirtual 18, 3) := by decide +kernel
theorem dL_law_200 : decode cL_law 200 = .ok (.aload_n 2, 1) := by decide +kernel
theorem dL_law_201 : decode cL_law 201 = .ok (.aload_n 0, 1) := by decide +kernel
theorem dL_law_202 : decode cL_law 202 = .ok (.iload_n 3, 1) := by decide +kernel
theorem dL_law_203 : decode cL_law 203 = .ok (.iconst 1, 1) := by decide +kernel
theorem dL_law_204 : decode cL_law 204 = .ok (.iadd, 1) := by decide +kernel
theorem dL_law_205 : decode cL_law 205 = .ok (.iaload, 1) := by decide +kernel
theorem dL_law_206 : decode cL_law 206 = .ok (.aload_n 0, 1) := by decide +kernel
theorem dL_law_207 : decode cL_law 207 = .ok (.iload_n 3, 1) := by decide +kernel
theorem dL_law_208 : decode cL_law 208 = .ok (.iconst 2, 1) := by decide +kernel
theorem dL_law_209 : decode cL_law 209 = .ok (.iadd, 1) := by decide +kernel
theorem dL_law_210 : decode cL_law 210 = .ok (.iaload, 1) := by decide +kernel
theorem dL_law_211 : decode cL_law 211 = .ok (.aload_n 0, 1) := by decide +kernel
theorem dL_law_212 : decode cL_law 212 = .ok (.iload_n 3, 1) := by decide +kernel
theorem dL_law_213 : decode cL_law 213 = .ok (.iconst 3, 1) := by decide +kernel
theorem dL_law_214 : decode cL_law 214 = .ok (.iadd, 1) := by decide +kernel
theorem dL_law_215 : decode cL_law 215 = .ok (.iaload, 1) := by decide +kernel
theorem dL_law_216 : decode cL_law 216 = .ok (.invokevirtual 22, 3) := by decide +kernel
theorem dL_law_219 : decode cL_law 219 = .ok (.if_icmp .eq 684, 3) := by decide +kernel
theorem dL_law_222 : decode cL_law 222 = .ok (.iconst 0, 1) := by decide +kernel
theorem dL_law_223 : decode cL_law 223 = .ok (.ireturn, 1) := by decide +kernel
theorem dL_law_224 : decode cL_law 224 = .ok (.aload_n 1, 1) := by decide +kernel
theorem dL_law_225 : decode cL_law 225 = .ok (.aload_n 0, 1) := by decide +kernel
theorem dL_law_226 : decode cL_law 226 = .ok (.iload_n 3, 1) := by decide +kernel
theorem dL_law_227 : decode cL_law 227 = .ok (.iconst 1, 1) := by decide +kernel
theorem dL_law_228 : decode cL_law 228 = .ok (.iadd, 1) := by decide +kernel
theorem dL_law_229 : decode cL_law 229 = .ok (.iaload, 1) := by decide +kernel
theorem dL_law_230 : decode cL_law 230 = .ok (.aload_n 0, 1) := by decide +kernel
theorem dL_law_231 : decode cL_law 231 = .ok (.iload_n 3, 1) := by decide +kernel
theorem dL_law_232 : decode cL_law 232 = .ok (.iconst 2, 1) := by decide +kernel
theorem dL_law_233 : decode cL_law 233 = .ok (.iadd, 1) := by decide +kernel
theorem dL_law_234 : decode cL_law 234 = .ok (.iaload, 1) := by decide +kernel
theorem dL_law_235 : decode cL_law 235 = .ok (.invokevirtual 23, 3) := by decide +kernel
theorem dL_law_238 : decode cL_law 238 = .ok (.aload_n 2, 1) := by decide +kernel
theorem dL_law_239 : decode cL_law 239 = .ok (.aload_n 0, 1) := by decide +kernel
theorem dL_law_240 : decode cL_law 240 = .ok (.iload_n 3, 1) := by decide +kernel
theorem dL_law_241 : decode cL_law 241 = .ok (.iconst 1, 1) := by decide +kernel
theorem dL_law_242 : decode cL_law 242 = .ok (.iadd, 1) := by decide +kernel
theorem dL_law_243 : decode cL_law 243 = .ok (.iaload, 1) := by decide +kernel
theorem dL_law_244 : decode cL_law 244 = .ok (.aload_n 0, 1) := by decide +kernel
theorem dL_law_245 : decode cL_law 245 = .ok (.iload_n 3, 1) := by decide +kernel
theorem dL_law_246 : decode cL_law 246 = .ok (.iconst 2, 1) := by decide +kernel
theorem dL_law_247 : decode cL_law 247 = .ok (.iadd, 1) := by decide +kernel
theorem dL_law_248 : decode cL_law 248 = .ok (.iaload, 1) := by decide +kernel
theorem dL_law_249 : decode cL_law 249 = .ok (.invokevirtual 26, 3) := by decide +kernel
theorem dL_law_252 : decode cL_law 252 = .ok (.if_icmp .eq 651, 3) := by decide +kernel
theorem dL_law_255 : decode cL_law 255 = .ok (.iconst 0, 1) := by decide +kernel
theorem dL_law_256 : decode cL_law 256 = .ok (.ireturn, 1) := by decide +kernel
theorem dL_law_257 : decode cL_law 257 = .ok (.aload_n 1, 1) := by decide +kernel
theorem dL_law_258 : decode cL_law 258 = .ok (.aload_n 0, 1) := by decide +kernel
theorem dL_law_259 : decode cL_law 259 = .ok (.iload_n 3, 1) := by decide +kernel
theorem dL_law_260 : decode cL_law 260 = .ok (.iconst 1, 1) := by decide +kernel
theorem dL_law_261 : decode cL_law 261 = .ok (.iadd, 1) := by decide +kernel
theorem dL_law_262 : decode cL_law 262 = .ok (.iaload, 1) := by decide +kernel
theorem dL_law_263 : decode cL_law 263 = .ok (.invokevirtual 27, 3) := by decide +kernel
theorem dL_law_266 : decode cL_law 266 = .ok (.aload_n 2, 1) := by decide +kernel
theorem dL_law_267 : decode cL_law 267 = .ok (.aload_n 0, 1) := by decide +kernel
theorem dL_law_268 : decode cL_law 268 = .ok (.iload_n 3, 1) := by decide +kernel
theorem dL_law_269 : decode cL_law 269 = .ok (.iconst 1, 1) := by decide +kernel
theorem dL_law_270 : decode cL_law 270 = .ok (.iadd, 1) := by decide +kernel
theorem dL_law_271 : decode cL_law 271 = .ok (.iaload, 1) := by decide +kernel
theorem dL_law_272 : decode cL_law 272 = .ok (.invokevirtual 31, 3) := by decide +kernel
theorem dL_law_275 : decode cL_law 275 = .ok (.if_icmp .eq 628, 3) := by decide +kernel
theorem dL_law_278 : decode cL_law 278 = .ok (.iconst 0, 1) := by decide +kernel
theorem dL_law_279 : decode cL_law 279 = .ok (.ireturn, 1) := by decide +kernel
theorem dL_law_280 : decode cL_law 280 = .ok (.aload_n 1, 1) := by decide +kernel
theorem dL_law_281 : decode cL_law 281 = .ok (.aload_n 0, 1) := by decide +kernel
theorem dL_law_282 : decode cL_law 282 = .ok (.iload_n 3, 1) := by decide +kernel
theorem dL_law_283 : decode cL_law 283 = .ok (.iconst 1, 1) := by decide +kernel
theorem dL_law_284 : decode cL_law 284 = .ok (.iadd, 1) := by decide +kernel
theorem dL_law_285 : decode cL_law 285 = .ok (.iaload, 1) := by decide +kernel
theorem dL_law_286 : decode cL_law 286 = .ok (.aload_n 0, 1) := by decide +kernel
theorem dL_law_287 : decode cL_law 287 = .ok (.iload_n 3, 1) := by decide +kernel
theorem dL_law_288 : decode cL_law 288 = .ok (.iconst 2, 1) := by decide +kernel
theorem dL_law_289 : decode cL_law 289 = .ok (.iadd, 1) := by decide +kernel
theorem dL_law_290 : decode cL_law 290 = .ok (.iaload, 1) := by decide +kernel
theorem dL_law_291 : decode cL_law 291 = .ok (.invokevirtual 32, 3) := by decide +kernel
theorem dL_law_294 : decode cL_law 294 = .ok (.aload_n 2, 1) := by decide +kernel
theorem dL_law_295 : decode cL_law 295 = .ok (.aload_n 0, 1) := by decide +kernel
theorem dL_law_296 : decode cL_law 296 = .ok (.iload_n 3, 1) := by decide +kernel
theorem dL_law_297 : decode cL_law 297 = .ok (.iconst 1, 1) := by decide +kernel
theorem dL_law_298 : decode cL_law 298 = .ok (.iadd, 1) := by decide +kernel
theorem dL_law_299 : decode cL_law 299 = .ok (.iaload, 1) := by decide +kernel
theorem dL_law_300 : decode cL_law 300 = .ok (.aload_n 0, 1) := by decide +kernel
theorem dL_law_301 : decode cL_law 301 = .ok (.iload_n 3, 1) := by decide +kernel
theorem dL_law_302 : decode cL_law 302 = .ok (.iconst 2, 1) := by decide +kernel
theorem dL_law_303 : decode cL_law 303 = .ok (.iadd, 1) := by decide +kernel
theorem dL_law_304 : decode cL_law 304 = .ok (.iaload, 1) := by decide +kernel
theorem dL_law_305 : decode cL_law 305 = .ok (.invokevirtual 35, 3) := by decide +kernel
theorem dL_law_308 : decode cL_law 308 = .ok (.if_icmp .eq 595, 3) := by decide +kernel
theorem dL_law_311 : decode cL_law 311 = .ok (.iconst 0, 1) := by decide +kernel
theorem dL_law_312 : decode cL_law 312 = .ok (.ireturn, 1) := by decide +kernel
theorem dL_law_313 : decode cL_law 313 = .ok (.aload_n 1, 1) := by decide +kernel
theorem dL_law_314 : decode cL_law 314 = .ok (.aload_n 0, 1) := by decide +kernel
theorem dL_law_315 : decode cL_law 315 = .ok (.iload_n 3, 1) := by decide +kernel
theorem dL_law_316 : decode cL_law 316 = .ok (.iconst 1, 1) := by decide +kernel
theorem dL_law_317 : decode cL_law 317 = .ok (.iadd, 1) := by decide +kernel
theorem dL_law_318 : decode cL_law 318 = .ok (.iaload, 1) := by decide +kernel
theorem dL_law_319 : decode cL_law 319 = .ok (.aload_n 0, 1) := by decide +kernel
theorem dL_law_320 : decode cL_law 320 = .ok (.iload_n 3, 1) := by decide +kernel
theorem dL_law_321 : decode cL_law 321 = .ok (.iconst 2, 1) := by decide +kernel
theorem dL_law_322 : decode cL_law 322 = .ok (.iadd, 1) := by decide +kernel
theorem dL_law_323 : decode cL_law 323 = .ok (.iaload, 1) := by decide +kernel
theorem dL_law_324 : decode cL_law 324 = .ok (.aload_n 0, 1) := by decide +kernel
theorem dL_law_325 : decode cL_law 325 = .ok (.iload_n 3, 1) := by decide +kernel
theorem dL_law_326 : decode cL_law 326 = .ok (.iconst 3, 1) := by decide +kernel
theorem dL_law_327 : decode cL_law 327 = .ok (.iadd, 1) := by decide +kernel
theorem dL_law_328 : decode cL_law 328 = .ok (.iaload, 1) := by decide +kernel
theorem dL_law_329 : decode cL_law 329 = .ok (.invokevirtual 36, 3) := by decide +kernel
theorem dL_law_332 : decode cL_law 332 = .ok (.aload_n 2, 1) := by decide +kernel
theorem dL_law_333 : decode cL_law 333 = .ok (.aload_n 0, 1) := by decide +kernel
theorem dL_law_334 : decode cL_law 334 = .ok (.iload_n 3, 1) := by decide +kernel
theorem dL_law_335 : decode cL_law 335 = .ok (.iconst 1, 1) := by decide +kernel
theorem dL_law_336 : decode cL_law 336 = .ok (.iadd, 1) := by decide +kernel
theorem dL_law_337 : decode cL_law 337 = .ok (.iaload, 1) := by decide +kernel
theorem dL_law_338 : decode cL_law 338 = .ok (.aload_n 0, 1) := by decide +kernel
theorem dL_law_339 : decode cL_law 339 = .ok (.iload_n 3, 1) := by decide +kernel
theorem dL_law_340 : decode cL_law 340 = .ok (.iconst 2, 1) := by decide +kernel
theorem dL_law_341 : decode cL_law 341 = .ok (.iadd, 1) := by decide +kernel
theorem dL_law_342 : decode cL_law 342 = .ok (.iaload, 1) := by decide +kernel
theorem dL_law_343 : decode cL_law 343 = .ok (.aload_n 0, 1) := by decide +kernel
theorem dL_law_344 : decode cL_law 344 = .ok (.iload_n 3, 1) := by decide +kernel
theorem dL_law_345 : decode cL_law 345 = .ok (.iconst 3, 1) := by decide +kernel
theorem dL_law_346 : decode cL_law 346 = .ok (.iadd, 1) := by decide +kernel
theorem dL_law_347 : decode cL_law 347 = .ok (.iaload, 1) := by decide +kernel
theorem dL_law_348 : decode cL_law 348 = .ok (.invokevirtual 39, 3) := by decide +kernel
theorem dL_law_351 : decode cL_law 351 = .ok (.if_icmp .eq 552, 3) := by decide +kernel
theorem dL_law_354 : decode cL_law 354 = .ok (.iconst 0, 1) := by decide +kernel
theorem dL_law_355 : decode cL_law 355 = .ok (.ireturn, 1) := by decide +kernel
theorem dL_law_356 : decode cL_law 356 = .ok (.aload_n 1, 1) := by decide +kernel
theorem dL_law_357 : decode cL_law 357 = .ok (.aload_n 0, 1) := by decide +kernel
theorem dL_law_358 : decode cL_law 358 = .ok (.iload_n 3, 1) := by decide +kernel
theorem dL_law_359 : decode cL_law 359 = .ok (.iconst 1, 1) := by decide +kernel
theorem dL_law_360 : decode cL_law 360 = .ok (.iadd, 1) := by decide +kernel
theorem dL_law_361 : decode cL_law 361 = .ok (.iaload, 1) := by decide +kernel
theorem dL_law_362 : decode cL_law 362 = .ok (.aload_n 0, 1) := by decide +kernel
theorem dL_law_363 : decode cL_law 363 = .ok (.iload_n 3, 1) := by decide +kernel
theorem dL_law_364 : decode cL_law 364 = .ok (.iconst 2, 1) := by decide +kernel
theorem dL_law_365 : decode cL_law 365 = .ok (.iadd, 1) := by decide +kernel
theorem dL_law_366 : decode cL_law 366 = .ok (.iaload, 1) := by decide +kernel
theorem dL_law_367 : decode cL_law 367 = .ok (.invokevirtual 40, 3) := by decide +kernel
theorem dL_law_370 : decode cL_law 370 = .ok (.aload_n 2, 1) := by decide +kernel
theorem dL_law_371 : decode cL_law 371 = .ok (.aload_n 0, 1) := by decide +kernel
theorem dL_law_372 : decode cL_law 372 = .ok (.iload_n 3, 1) := by decide +kernel
theorem dL_law_373 : decode cL_law 373 = .ok (.iconst 1, 1) := by decide +kernel
theorem dL_law_374 : decode cL_law 374 = .ok (.iadd, 1) := by decide +kernel
theorem dL_law_375 : decode cL_law 375 = .ok (.iaload, 1) := by decide +kernel
theorem dL_law_376 : decode cL_law 376 = .ok (.aload_n 0, 1) := by decide +kernel
theorem dL_law_377 : decode cL_law 377 = .ok (.iload_n 3, 1) := by decide +kernel
theorem dL_law_378 : decode cL_law 378 = .ok (.iconst 2, 1) := by decide +kernel
theorem dL_law_379 : decode cL_law 379 = .ok (.iadd, 1) := by decide +kernel
theorem dL_law_380 : decode cL_law 380 = .ok (.iaload, 1) := by decide +kernel
theorem dL_law_381 : decode cL_law 381 = .ok (.invokevirtual 43, 3) := by decide +kernel
theorem dL_law_384 : decode cL_law 384 = .ok (.if_icmp .eq 519, 3) := by decide +kernel
theorem dL_law_387 : decode cL_law 387 = .ok (.iconst 0, 1) := by decide +kernel
theorem dL_law_388 : decode cL_law 388 = .ok (.ireturn, 1) := by decide +kernel
theorem dL_law_389 : decode cL_law 389 = .ok (.aload_n 1, 1) := by decide +kernel
theorem dL_law_390 : decode cL_law 390 = .ok (.aload_n 0, 1) := by decide +kernel
theorem dL_law_391 : decode cL_law 391 = .ok (.iload_n 3, 1) := by decide +kernel
theorem dL_law_392 : decode cL_law 392 = .ok (.iconst 1, 1) := by decide +kernel
theorem dL_law_393 : decode cL_law 393 = .ok (.iadd, 1) := by decide +kernel
theorem dL_law_394 : decode cL_law 394 = .ok (.iaload, 1) := by decide +kernel
theorem dL_law_395 : decode cL_law 395 = .ok (.aload_n 0, 1) := by decide +kernel
theorem dL_law_396 : decode cL_law 396 = .ok (.iload_n 3, 1) := by decide +kernel
theorem dL_law_397 : decode cL_law 397 = .ok (.iconst 2, 1) := by decide +kernel
theorem dL_law_398 : decode cL_law 398 = .ok (.iadd, 1) := by decide +kernel
theorem dL_law_399 : decode cL_law 399 = .ok (.iaload, 1) := by decide +kernel
theorem dL_law_400 : decode cL_law 400 = .ok (.invokevirtual 44, 3) := by decide +kernel
theorem dL_law_403 : decode cL_law 403 = .ok (.aload_n 2, 1) := by decide +kernel
theorem dL_law_404 : decode cL_law 404 = .ok (.aload_n 0, 1) := by decide +kernel
theorem dL_law_405 : decode cL_law 405 = .ok (.iload_n 3, 1) := by decide +kernel
theorem dL_law_406 : decode cL_law 406 = .ok (.iconst 1, 1) := by decide +kernel
theorem dL_law_407 : decode cL_law 407 = .ok (.iadd, 1) := by decide +kernel
theorem dL_law_408 : decode cL_law 408 = .ok (.iaload, 1) := by decide +kernel
theorem dL_law_409 : decode cL_law 409 = .ok (.aload_n 0, 1) := by decide +kernel
theorem dL_law_410 : decode cL_law 410 = .ok (.iload_n 3, 1) := by decide +kernel
theorem dL_law_411 : decode cL_law 411 = .ok (.iconst 2, 1) := by decide +kernel
theorem dL_law_412 : decode cL_law 412 = .ok (.iadd, 1) := by decide +kernel
theorem dL_law_413 : decode cL_law 413 = .ok (.iaload, 1) := by decide +kernel
theorem dL_law_414 : decode cL_law 414 = .ok (.invokevirtual 47, 3) := by decide +kernel
theorem dL_law_417 : decode cL_law 417 = .ok (.if_icmp .eq 486, 3) := by decide +kernel
theorem dL_law_420 : decode cL_law 420 = .ok (.iconst 0, 1) := by decide +kernel
theorem dL_law_421 : decode cL_law 421 = .ok (.ireturn, 1) := by decide +kernel
theorem dL_law_422 : decode cL_law 422 = .ok (.aload_n 1, 1) := by decide +kernel
theorem dL_law_423 : decode cL_law 423 = .ok (.aload_n 0, 1) := by decide +kernel
theorem dL_law_424 : decode cL_law 424 = .ok (.iload_n 3, 1) := by decide +kernel
theorem dL_law_425 : decode cL_law 425 = .ok (.iconst 1, 1) := by decide +kernel
theorem dL_law_426 : decode cL_law 426 = .ok (.iadd, 1) := by decide +kernel
theorem dL_law_427 : decode cL_law 427 = .ok (.iaload, 1) := by decide +kernel
theorem dL_law_428 : decode cL_law 428 = .ok (.aload_n 0, 1) := by decide +kernel
theorem dL_law_429 : decode cL_law 429 = .ok (.iload_n 3, 1) := by decide +kernel
theorem dL_law_430 : decode cL_law 430 = .ok (.iconst 2, 1) := by decide +kernel
theorem dL_law_431 : decode cL_law 431 = .ok (.iadd, 1) := by decide +kernel
theorem dL_law_432 : decode cL_law 432 = .ok (.iaload, 1) := by decide +kernel
theorem dL_law_433 : decode cL_law 433 = .ok (.invokevirtual 48, 3) := by decide +kernel
theorem dL_law_436 : decode cL_law 436 = .ok (.aload_n 2, 1) := by decide +kernel
theorem dL_law_437 : decode cL_law 437 = .ok (.aload_n 0, 1) := by decide +kernel
theorem dL_law_438 : decode cL_law 438 = .ok (.iload_n 3, 1) := by decide +kernel
theorem dL_law_439 : decode cL_law 439 = .ok (.iconst 1, 1) := by decide +kernel
theorem dL_law_440 : decode cL_law 440 = .ok (.iadd, 1) := by decide +kernel
theorem dL_law_441 : decode cL_law 441 = .ok (.iaload, 1) := by decide +kernel
theorem dL_law_442 : decode cL_law 442 = .ok (.aload_n 0, 1) := by decide +kernel
theorem dL_law_443 : decode cL_law 443 = .ok (.iload_n 3, 1) := by decide +kernel
theorem dL_law_444 : decode cL_law 444 = .ok (.iconst 2, 1) := by decide +kernel
theorem dL_law_445 : decode cL_law 445 = .ok (.iadd, 1) := by decide +kernel
theorem dL_law_446 : decode cL_law 446 = .ok (.iaload, 1) := by decide +kernel
theorem dL_law_447 : decode cL_law 447 = .ok (.invokevirtual 51, 3) := by decide +kernel
theorem dL_law_450 : decode cL_law 450 = .ok (.if_icmp .eq 453, 3) := by decide +kernel
theorem dL_law_453 : decode cL_law 453 = .ok (.iconst 0, 1) := by decide +kernel
theorem dL_law_454 : decode cL_law 454 = .ok (.ireturn, 1) := by decide +kernel
theorem dL_law_455 : decode cL_law 455 = .ok (.aload_n 1, 1) := by decide +kernel
theorem dL_law_456 : decode cL_law 456 = .ok (.aload_n 0, 1) := by decide +kernel
theorem dL_law_457 : decode cL_law 457 = .ok (.iload_n 3, 1) := by decide +kernel
theorem dL_law_458 : decode cL_law 458 = .ok (.iconst 1, 1) := by decide +kernel
theorem dL_law_459 : decode cL_law 459 = .ok (.iadd, 1) := by decide +kernel
theorem dL_law_460 : decode cL_law 460 = .ok (.iaload, 1) := by decide +kernel
theorem dL_law_461 : decode cL_law 461 = .ok (.aload_n 0, 1) := by decide +kernel
theorem dL_law_462 : decode cL_law 462 = .ok (.iload_n 3, 1) := by decide +kernel
theorem dL_law_463 : decode cL_law 463 = .ok (.iconst 2, 1) := by decide +kernel
theorem dL_law_464 : decode cL_law 464 = .ok (.iadd, 1) := by decide +kernel
theorem dL_law_465 : decode cL_law 465 = .ok (.iaload, 1) := by decide +kernel
theorem dL_law_466 : decode cL_law 466 = .ok (.invokevirtual 52, 3) := by decide +kernel
theorem dL_law_469 : decode cL_law 469 = .ok (.aload_n 2, 1) := by decide +kernel
theorem dL_law_470 : decode cL_law 470 = .ok (.aload_n 0, 1) := by decide +kernel
theorem dL_law_471 : decode cL_law 471 = .ok (.iload_n 3, 1) := by decide +kernel
theorem dL_law_472 : decode cL_law 472 = .ok (.iconst 1, 1) := by decide +kernel
theorem dL_law_473 : decode cL_law 473 = .ok (.iadd, 1) := by decide +kernel
theorem dL_law_474 : decode cL_law 474 = .ok (.iaload, 1) := by decide +kernel
theorem dL_law_475 : decode cL_law 475 = .ok (.aload_n 0, 1) := by decide +kernel
theorem dL_law_476 : decode cL_law 476 = .ok (.iload_n 3, 1) := by decide +kernel
theorem dL_law_477 : decode cL_law 477 = .ok (.iconst 2, 1) := by decide +kernel
theorem dL_law_478 : decode cL_law 478 = .ok (.iadd, 1) := by decide +kernel
theorem dL_law_479 : decode cL_law 479 = .ok (.iaload, 1) := by decide +kernel
theorem dL_law_480 : decode cL_law 480 = .ok (.invokevirtual 55, 3) := by decide +kernel
theorem dL_law_483 : decode cL_law 483 = .ok (.if_icmp .eq 420, 3) := by decide +kernel
theorem dL_law_486 : decode cL_law 486 = .ok (.iconst 0, 1) := by decide +kernel
theorem dL_law_487 : decode cL_law 487 = .ok (.ireturn, 1) := by decide +kernel
theorem dL_law_488 : decode cL_law 488 = .ok (.aload_n 1, 1) := by decide +kernel
theorem dL_law_489 : decode cL_law 489 = .ok (.aload_n 0, 1) := by decide +kernel
theorem dL_law_490 : decode cL_law 490 = .ok (.iload_n 3, 1) := by decide +kernel
theorem dL_law_491 : decode cL_law 491 = .ok (.iconst 1, 1) := by decide +kernel
theorem dL_law_492 : decode cL_law 492 = .ok (.iadd, 1) := by decide +kernel
theorem dL_law_493 : decode cL_law 493 = .ok (.iaload, 1) := by decide +kernel
theorem dL_law_494 : decode cL_law 494 = .ok (.aload_n 0, 1) := by decide +kernel
theorem dL_law_495 : decode cL_law 495 = .ok (.iload_n 3, 1) := by decide +kernel
theorem dL_law_496 : decode cL_law 496 = .ok (.iconst 2, 1) := by decide +kernel
theorem dL_law_497 : decode cL_law 497 = .ok (.iadd, 1) := by decide +kernel
theorem dL_law_498 : decode cL_law 498 = .ok (.iaload, 1) := by decide +kernel
theorem dL_law_499 : decode cL_law 499 = .ok (.invokevirtual 56, 3) := by decide +kernel
theorem dL_law_502 : decode cL_law 502 = .ok (.aload_n 2, 1) := by decide +kernel
theorem dL_law_503 : decode cL_law 503 = .ok (.aload_n 0, 1) := by decide +kernel
theorem dL_law_504 : decode cL_law 504 = .ok (.iload_n 3, 1) := by decide +kernel
theorem dL_law_505 : decode cL_law 505 = .ok (.iconst 1, 1) := by decide +kernel
theorem dL_law_506 : decode cL_law 506 = .ok (.iadd, 1) := by decide +kernel
theorem dL_law_507 : decode cL_law 507 = .ok (.iaload, 1) := by decide +kernel
theorem dL_law_508 : decode cL_law 508 = .ok (.aload_n 0, 1) := by decide +kernel
theorem dL_law_509 : decode cL_law 509 = .ok (.iload_n 3, 1) := by decide +kernel
theorem dL_law_510 : decode cL_law 510 = .ok (.iconst 2, 1) := by decide +kernel
theorem dL_law_511 : decode cL_law 511 = .ok (.iadd, 1) := by decide +kernel
theorem dL_law_512 : decode cL_law 512 = .ok (.iaload, 1) := by decide +kernel
theorem dL_law_513 : decode cL_law 513 = .ok (.invokevirtual 59, 3) := by decide +kernel
theorem dL_law_516 : decode cL_law 516 = .ok (.if_icmp .eq 387, 3) := by decide +kernel
theorem dL_law_519 : decode cL_law 519 = .ok (.iconst 0, 1) := by decide +kernel
theorem dL_law_520 : decode cL_law 520 = .ok (.ireturn, 1) := by decide +kernel
theorem dL_law_521 : decode cL_law 521 = .ok (.aload_n 1, 1) := by decide +kernel
theorem dL_law_522 : decode cL_law 522 = .ok (.aload_n 0, 1) := by decide +kernel
theorem dL_law_523 : decode cL_law 523 = .ok (.iload_n 3, 1) := by decide +kernel
theorem dL_law_524 : decode cL_law 524 = .ok (.iconst 1, 1) := by decide +kernel
theorem dL_law_525 : decode cL_law 525 = .ok (.iadd, 1) := by decide +kernel
theorem dL_law_526 : decode cL_law 526 = .ok (.iaload, 1) := by decide +kernel
theorem dL_law_527 : decode cL_law 527 = .ok (.invokevirtual 60, 3) := by decide +kernel
theorem dL_law_530 : decode cL_law 530 = .ok (.aload_n 2, 1) := by decide +kernel
theorem dL_law_531 : decode cL_law 531 = .ok (.aload_n 0, 1) := by decide +kernel
theorem dL_law_532 : decode cL_law 532 = .ok (.iload_n 3, 1) := by decide +kernel
theorem dL_law_533 : decode cL_law 533 = .ok (.iconst 1, 1) := by decide +kernel
theorem dL_law_534 : decode cL_law 534 = .ok (.iadd, 1) := by decide +kernel
theorem dL_law_535 : decode cL_law 535 = .ok (.iaload, 1) := by decide +kernel
theorem dL_law_536 : decode cL_law 536 = .ok (.invokevirtual 63, 3) := by decide +kernel
theorem dL_law_539 : decode cL_law 539 = .ok (.if_icmp .eq 364, 3) := by decide +kernel
theorem dL_law_542 : decode cL_law 542 = .ok (.iconst 0, 1) := by decide +kernel
theorem dL_law_543 : decode cL_law 543 = .ok (.ireturn, 1) := by decide +kernel
theorem dL_law_544 : decode cL_law 544 = .ok (.aload_n 1, 1) := by decide +kernel
theorem dL_law_545 : decode cL_law 545 = .ok (.aload_n 0, 1) := by decide +kernel
theorem dL_law_546 : decode cL_law 546 = .ok (.iload_n 3, 1) := by decide +kernel
theorem dL_law_547 : decode cL_law 547 = .ok (.iconst 1, 1) := by decide +kernel
theorem dL_law_548 : decode cL_law 548 = .ok (.iadd, 1) := by decide +kernel
theorem dL_law_549 : decode cL_law 549 = .ok (.iaload, 1) := by decide +kernel
theorem dL_law_550 : decode cL_law 550 = .ok (.invokevirtual 64, 3) := by decide +kernel
theorem dL_law_553 : decode cL_law 553 = .ok (.aload_n 2, 1) := by decide +kernel
theorem dL_law_554 : decode cL_law 554 = .ok (.aload_n 0, 1) := by decide +kernel
theorem dL_law_555 : decode cL_law 555 = .ok (.iload_n 3, 1) := by decide +kernel
theorem dL_law_556 : decode cL_law 556 = .ok (.iconst 1, 1) := by decide +kernel
theorem dL_law_557 : decode cL_law 557 = .ok (.iadd, 1) := by decide +kernel
theorem dL_law_558 : decode cL_law 558 = .ok (.iaload, 1) := by decide +kernel
theorem dL_law_559 : decode cL_law 559 = .ok (.invokevirtual 67, 3) := by decide +kernel
theorem dL_law_562 : decode cL_law 562 = .ok (.if_icmp .eq 341, 3) := by decide +kernel
theorem dL_law_565 : decode cL_law 565 = .ok (.iconst 0, 1) := by decide +kernel
theorem dL_law_566 : decode cL_law 566 = .ok (.ireturn, 1) := by decide +kernel
theorem dL_law_567 : decode cL_law 567 = .ok (.aload_n 1, 1) := by decide +kernel
theorem dL_law_568 : decode cL_law 568 = .ok (.aload_n 0, 1) := by decide +kernel
theorem dL_law_569 : decode cL_law 569 = .ok (.iload_n 3, 1) := by decide +kernel
theorem dL_law_570 : decode cL_law 570 = .ok (.iconst 1, 1) := by decide +kernel
theorem dL_law_571 : decode cL_law 571 = .ok (.iadd, 1) := by decide +kernel
theorem dL_law_572 : decode cL_law 572 = .ok (.iaload, 1) := by decide +kernel
theorem dL_law_573 : decode cL_law 573 = .ok (.aload_n 0, 1) := by decide +kernel
theorem dL_law_574 : decode cL_law 574 = .ok (.iload_n 3, 1) := by decide +kernel
theorem dL_law_575 : decode cL_law 575 = .ok (.iconst 2, 1) := by decide +kernel
theorem dL_law_576 : decode cL_law 576 = .ok (.iadd, 1) := by decide +kernel
theorem dL_law_577 : decode cL_law 577 = .ok (.iaload, 1) := by decide +kernel
theorem dL_law_578 : decode cL_law 578 = .ok (.invokevirtual 68, 3) := by decide +kernel
theorem dL_law_581 : decode cL_law 581 = .ok (.aload_n 2, 1) := by decide +kernel
theorem dL_law_582 : decode cL_law 582 = .ok (.aload_n 0, 1) := by decide +kernel
theorem dL_law_583 : decode cL_law 583 = .ok (.iload_n 3, 1) := by decide +kernel
theorem dL_law_584 : decode cL_law 584 = .ok (.iconst 1, 1) := by decide +kernel
theorem dL_law_585 : decode cL_law 585 = .ok (.iadd, 1) := by decide +kernel
theorem dL_law_586 : decode cL_law 586 = .ok (.iaload, 1) := by decide +kernel
theorem dL_law_587 : decode cL_law 587 = .ok (.aload_n 0, 1) := by decide +kernel
theorem dL_law_588 : decode cL_law 588 = .ok (.iload_n 3, 1) := by decide +kernel
theorem dL_law_589 : decode cL_law 589 = .ok (.iconst 2, 1) := by decide +kernel
theorem dL_law_590 : decode cL_law 590 = .ok (.iadd, 1) := by decide +kernel
theorem dL_law_591 : decode cL_law 591 = .ok (.iaload, 1) := by decide +kernel
theorem dL_law_592 : decode cL_law 592 = .ok (.invokevirtual 71, 3) := by decide +kernel
theorem dL_law_595 : decode cL_law 595 = .ok (.if_icmp .eq 308, 3) := by decide +kernel
theorem dL_law_598 : decode cL_law 598 = .ok (.iconst 0, 1) := by decide +kernel
theorem dL_law_599 : decode cL_law 599 = .ok (.ireturn, 1) := by decide +kernel
theorem dL_law_600 : decode cL_law 600 = .ok (.aload_n 1, 1) := by decide +kernel
theorem dL_law_601 : decode cL_law 601 = .ok (.aload_n 0, 1) := by decide +kernel
theorem dL_law_602 : decode cL_law 602 = .ok (.iload_n 3, 1) := by decide +kernel
theorem dL_law_603 : decode cL_law 603 = .ok (.iconst 1, 1) := by decide +kernel
theorem dL_law_604 : decode cL_law 604 = .ok (.iadd, 1) := by decide +kernel
theorem dL_law_605 : decode cL_law 605 = .ok (.iaload, 1) := by decide +kernel
theorem dL_law_606 : decode cL_law 606 = .ok (.aload_n 0, 1) := by decide +kernel
theorem dL_law_607 : decode cL_law 607 = .ok (.iload_n 3, 1) := by decide +kernel
theorem dL_law_608 : decode cL_law 608 = .ok (.iconst 2, 1) := by decide +kernel
theorem dL_law_609 : decode cL_law 609 = .ok (.iadd, 1) := by decide +kernel
theorem dL_law_610 : decode cL_law 610 = .ok (.iaload, 1) := by decide +kernel
theorem dL_law_611 : decode cL_law 611 = .ok (.invokevirtual 72, 3) := by decide +kernel
theorem dL_law_614 : decode cL_law 614 = .ok (.aload_n 2, 1) := by decide +kernel
theorem dL_law_615 : decode cL_law 615 = .ok (.aload_n 0, 1) := by decide +kernel
theorem dL_law_616 : decode cL_law 616 = .ok (.iload_n 3, 1) := by decide +kernel
theorem dL_law_617 : decode cL_law 617 = .ok (.iconst 1, 1) := by decide +kernel
theorem dL_law_618 : decode cL_law 618 = .ok (.iadd, 1) := by decide +kernel
theorem dL_law_619 : decode cL_law 619 = .ok (.iaload, 1) := by decide +kernel
theorem dL_law_620 : decode cL_law 620 = .ok (.aload_n 0, 1) := by decide +kernel
theorem dL_law_621 : decode cL_law 621 = .ok (.iload_n 3, 1) := by decide +kernel
theorem dL_law_622 : decode cL_law 622 = .ok (.iconst 2, 1) := by decide +kernel
theorem dL_law_623 : decode cL_law 623 = .ok (.iadd, 1) := by decide +kernel
theorem dL_law_624 : decode cL_law 624 = .ok (.iaload, 1) := by decide +kernel
theorem dL_law_625 : decode cL_law 625 = .ok (.invokevirtual 75, 3) := by decide +kernel
theorem dL_law_628 : decode cL_law 628 = .ok (.if_icmp .eq 275, 3) := by decide +kernel
theorem dL_law_631 : decode cL_law 631 = .ok (.iconst 0, 1) := by decide +kernel
theorem dL_law_632 : decode cL_law 632 = .ok (.ireturn, 1) := by decide +kernel
theorem dL_law_633 : decode cL_law 633 = .ok (.aload_n 1, 1) := by decide +kernel
theorem dL_law_634 : decode cL_law 634 = .ok (.aload_n 0, 1) := by decide +kernel
theorem dL_law_635 : decode cL_law 635 = .ok (.iload_n 3, 1) := by decide +kernel
theorem dL_law_636 : decode cL_law 636 = .ok (.iconst 1, 1) := by decide +kernel
theorem dL_law_637 : decode cL_law 637 = .ok (.iadd, 1) := by decide +kernel
theorem dL_law_638 : decode cL_law 638 = .ok (.iaload, 1) := by decide +kernel
theorem dL_law_639 : decode cL_law 639 = .ok (.invokevirtual 76, 3) := by decide +kernel
theorem dL_law_642 : decode cL_law 642 = .ok (.aload_n 2, 1) := by decide +kernel
theorem dL_law_643 : decode cL_law 643 = .ok (.aload_n 0, 1) := by decide +kernel
theorem dL_law_644 : decode cL_law 644 = .ok (.iload_n 3, 1) := by decide +kernel
theorem dL_law_645 : decode cL_law 645 = .ok (.iconst 1, 1) := by decide +kernel
theorem dL_law_646 : decode cL_law 646 = .ok (.iadd, 1) := by decide +kernel
theorem dL_law_647 : decode cL_law 647 = .ok (.iaload, 1) := by decide +kernel
theorem dL_law_648 : decode cL_law 648 = .ok (.invokevirtual 79, 3) := by decide +kernel
theorem dL_law_651 : decode cL_law 651 = .ok (.if_icmp .eq 252, 3) := by decide +kernel
theorem dL_law_654 : decode cL_law 654 = .ok (.iconst 0, 1) := by decide +kernel
theorem dL_law_655 : decode cL_law 655 = .ok (.ireturn, 1) := by decide +kernel
theorem dL_law_656 : decode cL_law 656 = .ok (.aload_n 1, 1) := by decide +kernel
theorem dL_law_657 : decode cL_law 657 = .ok (.aload_n 0, 1) := by decide +kernel
theorem dL_law_658 : decode cL_law 658 = .ok (.iload_n 3, 1) := by decide +kernel
theorem dL_law_659 : decode cL_law 659 = .ok (.iconst 1, 1) := by decide +kernel
theorem dL_law_660 : decode cL_law 660 = .ok (.iadd, 1) := by decide +kernel
theorem dL_law_661 : decode cL_law 661 = .ok (.iaload, 1) := by decide +kernel
theorem dL_law_662 : decode cL_law 662 = .ok (.aload_n 0, 1) := by decide +kernel
theorem dL_law_663 : decode cL_law 663 = .ok (.iload_n 3, 1) := by decide +kernel
theorem dL_law_664 : decode cL_law 664 = .ok (.iconst 2, 1) := by decide +kernel
theorem dL_law_665 : decode cL_law 665 = .ok (.iadd, 1) := by decide +kernel
theorem dL_law_666 : decode cL_law 666 = .ok (.iaload, 1) := by decide +kernel
theorem dL_law_667 : decode cL_law 667 = .ok (.aload_n 0, 1) := by decide +kernel
theorem dL_law_668 : decode cL_law 668 = .ok (.iload_n 3, 1) := by decide +kernel
theorem dL_law_669 : decode cL_law 669 = .ok (.iconst 3, 1) := by decide +kernel
theorem dL_law_670 : decode cL_law 670 = .ok (.iadd, 1) := by decide +kernel
theorem dL_law_671 : decode cL_law 671 = .ok (.iaload, 1) := by decide +kernel
theorem dL_law_672 : decode cL_law 672 = .ok (.invokevirtual 80, 3) := by decide +kernel
theorem dL_law_675 : decode cL_law 675 = .ok (.aload_n 2, 1) := by decide +kernel
theorem dL_law_676 : decode cL_law 676 = .ok (.aload_n 0, 1) := by decide +kernel
theorem dL_law_677 : decode cL_law 677 = .ok (.iload_n 3, 1) := by decide +kernel
theorem dL_law_678 : decode cL_law 678 = .ok (.iconst 1, 1) := by decide +kernel
theorem dL_law_679 : decode cL_law 679 = .ok (.iadd, 1) := by decide +kernel
theorem dL_law_680 : decode cL_law 680 = .ok (.iaload, 1) := by decide +kernel
theorem dL_law_681 : decode cL_law 681 = .ok (.aload_n 0, 1) := by decide +kernel
theorem dL_law_682 : decode cL_law 682 = .ok (.iload_n 3, 1) := by decide +kernel
theorem dL_law_683 : decode cL_law 683 = .ok (.iconst 2, 1) := by decide +kernel
theorem dL_law_684 : decode cL_law 684 = .ok (.iadd, 1) := by decide +kernel
theorem dL_law_685 : decode cL_law 685 = .ok (.iaload, 1) := by decide +kernel
theorem dL_law_686 : decode cL_law 686 = .ok (.aload_n 0, 1) := by decide +kernel
theorem dL_law_687 : decode cL_law 687 = .ok (.iload_n 3, 1) := by decide +kernel
theorem dL_law_688 : decode cL_law 688 = .ok (.iconst 3, 1) := by decide +kernel
theorem dL_law_689 : decode cL_law 689 = .ok (.iadd, 1) := by decide +kernel
theorem dL_law_690 : decode cL_law 690 = .ok (.iaload, 1) := by decide +kernel
theorem dL_law_691 : decode cL_law 691 = .ok (.invokevirtual 83, 3) := by decide +kernel
theorem dL_law_694 : decode cL_law 694 = .ok (.if_icmp .eq 209, 3) := by decide +kernel
theorem dL_law_697 : decode cL_law 697 = .ok (.iconst 0, 1) := by decide +kernel
theorem dL_law_698 : decode cL_law 698 = .ok (.ireturn, 1) := by decide +kernel
theorem dL_law_699 : decode cL_law 699 = .ok (.aload_n 1, 1) := by decide +kernel
theorem dL_law_700 : decode cL_law 700 = .ok (.aload_n 0, 1) := by decide +kernel
theorem dL_law_701 : decode cL_law 701 = .ok (.iload_n 3, 1) := by decide +kernel
theorem dL_law_702 : decode cL_law 702 = .ok (.iconst 1, 1) := by decide +kernel
theorem dL_law_703 : decode cL_law 703 = .ok (.iadd, 1) := by decide +kernel
theorem dL_law_704 : decode cL_law 704 = .ok (.iaload, 1) := by decide +kernel
theorem dL_law_705 : decode cL_law 705 = .ok (.aload_n 0, 1) := by decide +kernel
theorem dL_law_706 : decode cL_law 706 = .ok (.iload_n 3, 1) := by decide +kernel
theorem dL_law_707 : decode cL_law 707 = .ok (.iconst 2, 1) := by decide +kernel
theorem dL_law_708 : decode cL_law 708 = .ok (.iadd, 1) := by decide +kernel
theorem dL_law_709 : decode cL_law 709 = .ok (.iaload, 1) := by decide +kernel
theorem dL_law_710 : decode cL_law 710 = .ok (.aload_n 0, 1) := by decide +kernel
theorem dL_law_711 : decode cL_law 711 = .ok (.iload_n 3, 1) := by decide +kernel
theorem dL_law_712 : decode cL_law 712 = .ok (.iconst 3, 1) := by decide +kernel
theorem dL_law_713 : decode cL_law 713 = .ok (.iadd, 1) := by decide +kernel
theorem dL_law_714 : decode cL_law 714 = .ok (.iaload, 1) := by decide +kernel
theorem dL_law_715 : decode cL_law 715 = .ok (.invokevirtual 84, 3) := by decide +kernel
theorem dL_law_718 : decode cL_law 718 = .ok (.aload_n 2, 1) := by decide +kernel
theorem dL_law_719 : decode cL_law 719 = .ok (.aload_n 0, 1) := by decide +kernel
theorem dL_law_720 : decode cL_law 720 = .ok (.iload_n 3, 1) := by decide +kernel
theorem dL_law_721 : decode cL_law 721 = .ok (.iconst 1, 1) := by decide +kernel
theorem dL_law_722 : decode cL_law 722 = .ok (.iadd, 1) := by decide +kernel
theorem dL_law_723 : decode cL_law 723 = .ok (.iaload, 1) := by decide +kernel
theorem dL_law_724 : decode cL_law 724 = .ok (.aload_n 0, 1) := by decide +kernel
theorem dL_law_725 : decode cL_law 725 = .ok (.iload_n 3, 1) := by decide +kernel
theorem dL_law_726 : decode cL_law 726 = .ok (.iconst 2, 1) := by decide +kernel
theorem dL_law_727 : decode cL_law 727 = .ok (.iadd, 1) := by decide +kernel
theorem dL_law_728 : decode cL_law 728 = .ok (.iaload, 1) := by decide +kernel
theorem dL_law_729 : decode cL_law 729 = .ok (.aload_n 0, 1) := by decide +kernel
theorem dL_law_730 : decode cL_law 730 = .ok (.iload_n 3, 1) := by decide +kernel
theorem dL_law_731 : decode cL_law 731 = .ok (.iconst 3, 1) := by decide +kernel
theorem dL_law_732 : decode cL_law 732 = .ok (.iadd, 1) := by decide +kernel
theorem dL_law_733 : decode cL_law 733 = .ok (.iaload, 1) := by decide +kernel
theorem dL_law_734 : decode cL_law 734 = .ok (.invokevirtual 87, 3) := by decide +kernel
theorem dL_law_737 : decode cL_law 737 = .ok (.if_icmp .eq 166, 3) := by decide +kernel
theorem dL_law_740 : decode cL_law 740 = .ok (.iconst 0, 1) := by decide +kernel
theorem dL_law_741 : decode cL_law 741 = .ok (.ireturn, 1) := by decide +kernel
theorem dL_law_742 : decode cL_law 742 = .ok (.aload_n 1, 1) := by decide +kernel
theorem dL_law_743 : decode cL_law 743 = .ok (.aload_n 0, 1) := by decide +kernel
theorem dL_law_744 : decode cL_law 744 = .ok (.iload_n 3, 1) := by decide +kernel
theorem dL_law_745 : decode cL_law 745 = .ok (.iconst 1, 1) := by decide +kernel
theorem dL_law_746 : decode cL_law 746 = .ok (.iadd, 1) := by decide +kernel
theorem dL_law_747 : decode cL_law 747 = .ok (.iaload, 1) := by decide +kernel
theorem dL_law_748 : decode cL_law 748 = .ok (.aload_n 0, 1) := by decide +kernel
theorem dL_law_749 : decode cL_law 749 = .ok (.iload_n 3, 1) := by decide +kernel
theorem dL_law_750 : decode cL_law 750 = .ok (.iconst 2, 1) := by decide +kernel
theorem dL_law_751 : decode cL_law 751 = .ok (.iadd, 1) := by decide +kernel
theorem dL_law_752 : decode cL_law 752 = .ok (.iaload, 1) := by decide +kernel
theorem dL_law_753 : decode cL_law 753 = .ok (.aload_n 0, 1) := by decide +kernel
theorem dL_law_754 : decode cL_law 754 = .ok (.iload_n 3, 1) := by decide +kernel
theorem dL_law_755 : decode cL_law 755 = .ok (.iconst 3, 1) := by decide +kernel
theorem dL_law_756 : decode cL_law 756 = .ok (.iadd, 1) := by decide +kernel
theorem dL_law_757 : decode cL_law 757 = .ok (.iaload, 1) := by decide +kernel
theorem dL_law_758 : decode cL_law 758 = .ok (.aload_n 0, 1) := by decide +kernel
theorem dL_law_759 : decode cL_law 759 = .ok (.iload_n 3, 1) := by decide +kernel
theorem dL_law_760 : decode cL_law 760 = .ok (.iconst 4, 1) := by decide +kernel
theorem dL_law_761 : decode cL_law 761 = .ok (.iadd, 1) := by decide +kernel
theorem dL_law_762 : decode cL_law 762 = .ok (.iaload, 1) := by decide +kernel
theorem dL_law_763 : decode cL_law 763 = .ok (.invokevirtual 88, 3) := by decide +kernel
theorem dL_law_766 : decode cL_law 766 = .ok (.aload_n 2, 1) := by decide +kernel
theorem dL_law_767 : decode cL_law 767 = .ok (.aload_n 0, 1) := by decide +kernel
theorem dL_law_768 : decode cL_law 768 = .ok (.iload_n 3, 1) := by decide +kernel
theorem dL_law_769 : decode cL_law 769 = .ok (.iconst 1, 1) := by decide +kernel
theorem dL_law_770 : decode cL_law 770 = .ok (.iadd, 1) := by decide +kernel
theorem dL_law_771 : decode cL_law 771 = .ok (.iaload, 1) := by decide +kernel
theorem dL_law_772 : decode cL_law 772 = .ok (.aload_n 0, 1) := by decide +kernel
theorem dL_law_773 : decode cL_law 773 = .ok (.iload_n 3, 1) := by decide +kernel
theorem dL_law_774 : decode cL_law 774 = .ok (.iconst 2, 1) := by decide +kernel
theorem dL_law_775 : decode cL_law 775 = .ok (.iadd, 1) := by decide +kernel
theorem dL_law_776 : decode cL_law 776 = .ok (.iaload, 1) := by decide +kernel
theorem dL_law_777 : decode cL_law 777 = .ok (.aload_n 0, 1) := by decide +kernel
theorem dL_law_778 : decode cL_law 778 = .ok (.iload_n 3, 1) := by decide +kernel
theorem dL_law_779 : decode cL_law 779 = .ok (.iconst 3, 1) := by decide +kernel
theorem dL_law_780 : decode cL_law 780 = .ok (.iadd, 1) := by decide +kernel
theorem dL_law_781 : decode cL_law 781 = .ok (.iaload, 1) := by decide +kernel
theorem dL_law_782 : decode cL_law 782 = .ok (.aload_n 0, 1) := by decide +kernel
theorem dL_law_783 : decode cL_law 783 = .ok (.iload_n 3, 1) := by decide +kernel
theorem dL_law_784 : decode cL_law 784 = .ok (.iconst 4, 1) := by decide +kernel
theorem dL_law_785 : decode cL_law 785 = .ok (.iadd, 1) := by decide +kernel
theorem dL_law_786 : decode cL_law 786 = .ok (.iaload, 1) := by decide +kernel
theorem dL_law_787 : decode cL_law 787 = .ok (.invokevirtual 92, 3) := by decide +kernel
theorem dL_law_790 : decode cL_law 790 = .ok (.if_icmp .eq 113, 3) := by decide +kernel
theorem dL_law_793 : decode cL_law 793 = .ok (.iconst 0, 1) := by decide +kernel
theorem dL_law_794 : decode cL_law 794 = .ok (.ireturn, 1) := by decide +kernel
theorem dL_law_795 : decode cL_law 795 = .ok (.aload_n 1, 1) := by decide +kernel
theorem dL_law_796 : decode cL_law 796 = .ok (.aload_n 0, 1) := by decide +kernel
theorem dL_law_797 : decode cL_law 797 = .ok (.iload_n 3, 1) := by decide +kernel
theorem dL_law_798 : decode cL_law 798 = .ok (.iconst 1, 1) := by decide +kernel
theorem dL_law_799 : decode cL_law 799 = .ok (.iadd, 1) := by decide +kernel
theorem dL_law_800 : decode cL_law 800 = .ok (.iaload, 1) := by decide +kernel
theorem dL_law_801 : decode cL_law 801 = .ok (.invokevirtual 93, 3) := by decide +kernel
theorem dL_law_804 : decode cL_law 804 = .ok (.aload_n 2, 1) := by decide +kernel
theorem dL_law_805 : decode cL_law 805 = .ok (.aload_n 0, 1) := by decide +kernel
theorem dL_law_806 : decode cL_law 806 = .ok (.iload_n 3, 1) := by decide +kernel
theorem dL_law_807 : decode cL_law 807 = .ok (.iconst 1, 1) := by decide +kernel
theorem dL_law_808 : decode cL_law 808 = .ok (.iadd, 1) := by decide +kernel
theorem dL_law_809 : decode cL_law 809 = .ok (.iaload, 1) := by decide +kernel
theorem dL_law_810 : decode cL_law 810 = .ok (.invokevirtual 96, 3) := by decide +kernel
theorem dL_law_813 : decode cL_law 813 = .ok (.if_icmp .eq 90, 3) := by decide +kernel
theorem dL_law_816 : decode cL_law 816 = .ok (.iconst 0, 1) := by decide +kernel
theorem dL_law_817 : decode cL_law 817 = .ok (.ireturn, 1) := by decide +kernel
theorem dL_law_818 : decode cL_law 818 = .ok (.aload_n 1, 1) := by decide +kernel
theorem dL_law_819 : decode cL_law 819 = .ok (.invokevirtual 97, 3) := by decide +kernel
theorem dL_law_822 : decode cL_law 822 = .ok (.aload_n 2, 1) := by decide +kernel
theorem dL_law_823 : decode cL_law 823 = .ok (.invokevirtual 101, 3) := by decide +kernel
theorem dL_law_826 : decode cL_law 826 = .ok (.if_icmp .eq 77, 3) := by decide +kernel
theorem dL_law_829 : decode cL_law 829 = .ok (.iconst 0, 1) := by decide +kernel
theorem dL_law_830 : decode cL_law 830 = .ok (.ireturn, 1) := by decide +kernel
theorem dL_law_831 : decode cL_law 831 = .ok (.aload_n 1, 1) := by decide +kernel
theorem dL_law_832 : decode cL_law 832 = .ok (.aload_n 0, 1) := by decide +kernel
theorem dL_law_833 : decode cL_law 833 = .ok (.iload_n 3, 1) := by decide +kernel
theorem dL_law_834 : decode cL_law 834 = .ok (.iconst 1, 1) := by decide +kernel
theorem dL_law_835 : decode cL_law 835 = .ok (.iadd, 1) := by decide +kernel
theorem dL_law_836 : decode cL_law 836 = .ok (.iaload, 1) := by decide +kernel
theorem dL_law_837 : decode cL_law 837 = .ok (.invokevirtual 102, 3) := by decide +kernel
theorem dL_law_840 : decode cL_law 840 = .ok (.aload_n 2, 1) := by decide +kernel
theorem dL_law_841 : decode cL_law 841 = .ok (.aload_n 0, 1) := by decide +kernel
theorem dL_law_842 : decode cL_law 842 = .ok (.iload_n 3, 1) := by decide +kernel
theorem dL_law_843 : decode cL_law 843 = .ok (.iconst 1, 1) := by decide +kernel
theorem dL_law_844 : decode cL_law 844 = .ok (.iadd, 1) := by decide +kernel
theorem dL_law_845 : decode cL_law 845 = .ok (.iaload, 1) := by decide +kernel
theorem dL_law_846 : decode cL_law 846 = .ok (.invokevirtual 105, 3) := by decide +kernel
theorem dL_law_849 : decode cL_law 849 = .ok (.if_icmp .eq 54, 3) := by decide +kernel
theorem dL_law_852 : decode cL_law 852 = .ok (.iconst 0, 1) := by decide +kernel
theorem dL_law_853 : decode cL_law 853 = .ok (.ireturn, 1) := by decide +kernel
theorem dL_law_854 : decode cL_law 854 = .ok (.aload_n 1, 1) := by decide +kernel
theorem dL_law_855 : decode cL_law 855 = .ok (.invokevirtual 106, 3) := by decide +kernel
theorem dL_law_858 : decode cL_law 858 = .ok (.aload_n 2, 1) := by decide +kernel
theorem dL_law_859 : decode cL_law 859 = .ok (.invokevirtual 109, 3) := by decide +kernel
theorem dL_law_862 : decode cL_law 862 = .ok (.if_icmp .eq 41, 3) := by decide +kernel
theorem dL_law_865 : decode cL_law 865 = .ok (.iconst 0, 1) := by decide +kernel
theorem dL_law_866 : decode cL_law 866 = .ok (.ireturn, 1) := by decide +kernel
theorem dL_law_867 : decode cL_law 867 = .ok (.aload_n 1, 1) := by decide +kernel
theorem dL_law_868 : decode cL_law 868 = .ok (.aload_n 0, 1) := by decide +kernel
theorem dL_law_869 : decode cL_law 869 = .ok (.iload_n 3, 1) := by decide +kernel
theorem dL_law_870 : decode cL_law 870 = .ok (.iconst 1, 1) := by decide +kernel
theorem dL_law_871 : decode cL_law 871 = .ok (.iadd, 1) := by decide +kernel
theorem dL_law_872 : decode cL_law 872 = .ok (.iaload, 1) := by decide +kernel
theorem dL_law_873 : decode cL_law 873 = .ok (.invokevirtual 110, 3) := by decide +kernel
theorem dL_law_876 : decode cL_law 876 = .ok (.aload_n 2, 1) := by decide +kernel
theorem dL_law_877 : decode cL_law 877 = .ok (.aload_n 0, 1) := by decide +kernel
theorem dL_law_878 : decode cL_law 878 = .ok (.iload_n 3, 1) := by decide +kernel
theorem dL_law_879 : decode cL_law 879 = .ok (.iconst 1, 1) := by decide +kernel
theorem dL_law_880 : decode cL_law 880 = .ok (.iadd, 1) := by decide +kernel
theorem dL_law_881 : decode cL_law 881 = .ok (.iaload, 1) := by decide +kernel
theorem dL_law_882 : decode cL_law 882 = .ok (.invokevirtual 113, 3) := by decide +kernel
theorem dL_law_885 : decode cL_law 885 = .ok (.if_icmp .eq 18, 3) := by decide +kernel
theorem dL_law_888 : decode cL_law 888 = .ok (.iconst 0, 1) := by decide +kernel
theorem dL_law_889 : decode cL_law 889 = .ok (.ireturn, 1) := by decide +kernel
theorem dL_law_890 : decode cL_law 890 = .ok (.aload_n 1, 1) := by decide +kernel
theorem dL_law_891 : decode cL_law 891 = .ok (.invokevirtual 114, 3) := by decide +kernel
theorem dL_law_894 : decode cL_law 894 = .ok (.aload_n 2, 1) := by decide +kernel
theorem dL_law_895 : decode cL_law 895 = .ok (.invokevirtual 117, 3) := by decide +kernel
theorem dL_law_898 : decode cL_law 898 = .ok (.if_icmp .eq 5, 3) := by decide +kernel
theorem dL_law_901 : decode cL_law 901 = .ok (.iconst 0, 1) := by decide +kernel
theorem dL_law_902 : decode cL_law 902 = .ok (.ireturn, 1) := by decide +kernel
theorem dL_law_903 : decode cL_law 903 = .ok (.iinc 3 5, 3) := by decide +kernel
theorem dL_law_906 : decode cL_law 906 = .ok (.goto (-888), 3) := by decide +kernel
theorem dL_law_909 : decode cL_law 909 = .ok (.iconst 1, 1) := by decide +kernel
theorem dL_law_910 : decode cL_law 910 = .ok (.ireturn, 1) := by decide +kernel
end
section
/-! decode rows (printed by the kit's program) -/
theorem dX6_init_0 : decode cX6_init 0 = .ok (.aload_n 0, 1) := by decide +kernel
theorem dX6_init_1 : decode cX6_init 1 = .ok (.invokespecial 1, 3) := by decide +kernel
theorem dX6_init_4 : decode cX6_init 4 = .ok (.aload_n 0, 1) := by decide +kernel
theorem dX6_init_5 : decode cX6_init 5 = .ok (.sipush 349, 3) := by decide +kernel
theorem dX6_init_8 : decode cX6_init 8 = .ok (.newarray .int, 2) := by decide +kernel
theorem dX6_init_10 : decode cX6_init 10 = .ok (.putfield 7, 3) := by decide +kernel
theorem dX6_init_13 : decode cX6_init 13 = .ok (.aload_n 0, 1) := by decide +kernel
theorem dX6_init_14 : decode cX6_init 14 = .ok (.sipush 349, 3) := by decide +kernel
theorem dX6_init_17 : decode cX6_init 17 = .ok (.newarray .int, 2) := by decide +kernel
theorem dX6_init_19 : decode cX6_init 19 = .ok (.putfield 13, 3) := by decide +kernel
theorem dX6_init_22 : decode cX6_init 22 = .ok (.aload_n 0, 1) := by decide +kernel
theorem dX6_init_23 : decode cX6_init 23 = .ok (.sipush 1396, 3) := by decide +kernel
theorem dX6_init_26 : decode cX6_init 26 = .ok (.newarray .int, 2) := by decide +kernel
theorem dX6_init_28 : decode cX6_init 28 = .ok (.putfield 16, 3) := by decide +kernel
theorem dX6_init_31 : decode cX6_init 31 = .ok (.aload_n 0, 1) := by decide +kernel
theorem dX6_init_32 : decode cX6_init 32 = .ok (.bipush 80, 2) := by decide +kernel
theorem dX6_init_34 : decode cX6_init 34 = .ok (.newarray .int, 2) := by decide +kernel
theorem dX6_init_36 : decode cX6_init 36 = .ok (.putfield 19, 3) := by decide +kernel
theorem dX6_init_39 : decode cX6_init 39 = .ok (.aload_n 0, 1) := by decide +kernel
theorem dX6_init_40 : decode cX6_init 40 = .ok (.bipush 6, 2) := by decide +kernel
theorem dX6_init_42 : decode cX6_init 42 = .ok (.newarray .int, 2) := by decide +kernel
theorem dX6_init_44 : decode cX6_init 44 = .ok (.putfield 22, 3) := by decide +kernel
theorem dX6_init_47 : decode cX6_init 47 = .ok (.aload_n 0, 1) := by decide +kernel
theorem dX6_init_48 : decode cX6_init 48 = .ok (.bipush 6, 2) := by decide +kernel
theorem dX6_init_50 : decode cX6_init 50 = .ok (.newarray .int, 2) := by decide +kernel
theorem dX6_init_52 : decode cX6_init 52 = .ok (.putfield 25, 3) := by decide +kernel
theorem dX6_init_55 : decode cX6_init 55 = .ok (.aload_n 0, 1) := by decide +kernel
theorem dX6_init_56 : decode cX6_init 56 = .ok (.bipush 6, 2) := by decide +kernel
theorem dX6_init_58 : decode cX6_init 58 = .ok (.newarray .int, 2) := by decide +kernel
theorem dX6_init_60 : decode cX6_init 60 = .ok (.putfield 28, 3) := by decide +kernel
theorem dX6_init_63 : decode cX6_init 63 = .ok (.aload_n 0, 1) := by decide +kernel
theorem dX6_init_64 : decode cX6_init 64 = .ok (.bipush 6, 2) := by decide +kernel
theorem dX6_init_66 : decode cX6_init 66 = .ok (.newarray .int, 2) := by decide +kernel
theorem dX6_init_68 : decode cX6_init 68 = .ok (.putfield 31, 3) := by decide +kernel
theorem dX6_init_71 : decode cX6_init 71 = .ok (.aload_n 0, 1) := by decide +kernel
theorem dX6_init_72 : decode cX6_init 72 = .ok (.getfield 7, 3) := by decide +kernel
theorem dX6_init_75 : decode cX6_init 75 = .ok (.iconst 0, 1) := by decide +kernel
theorem dX6_init_76 : decode cX6_init 76 = .ok (.iconst 5, 1) := by decide +kernel
theorem dX6_init_77 : decode cX6_init 77 = .ok (.iastore, 1) := by decide +kernel
theorem dX6_init_78 : decode cX6_init 78 = .ok (.aload_n 0, 1) := by decide +kernel
theorem dX6_init_79 : decode cX6_init 79 = .ok (.getfield 7, 3) := by decide +kernel
theorem dX6_init_82 : decode cX6_init 82 = .ok (.iconst 1, 1) := by decide +kernel
theorem dX6_init_83 : decode cX6_init 83 = .ok (.bipush 10, 2) := by decide +kernel
theorem dX6_init_85 : decode cX6_init 85 = .ok (.iastore, 1) := by decide +kernel
theorem dX6_init_86 : decode cX6_init 86 = .ok (.aload_n 0, 1) := by decide +kernel
theorem dX6_init_87 : decode cX6_init 87 = .ok (.getfield 7, 3) := by decide +kernel
theorem dX6_init_90 : decode cX6_init 90 = .ok (.iconst 2, 1) := by decide +kernel
theorem dX6_init_91 : decode cX6_init 91 = .ok (.bipush 50, 2) := by decide +kernel
theorem dX6_init_93 : decode cX6_init 93 = .ok (.iastore, 1) := by decide +kernel
theorem dX6_init_94 : decode cX6_init 94 = .ok (.return_, 1) := by decide +kernel
theorem dX6_copy_0 : decode cX6_copy 0 = .ok (.iconst 0, 1) := by decide +kernel
theorem dX6_copy_1 : decode cX6_copy 1 = .ok (.istore 4, 2) := by decide +kernel
theorem dX6_copy_3 : decode cX6_copy 3 = .ok (.iload 4, 2) := by decide +kernel
theorem dX6_copy_5 : decode cX6_copy 5 = .ok (.sipush 349, 3) := by decide +kernel
theorem dX6_copy_8 : decode cX6_copy 8 = .ok (.if_icmp .ge 21, 3) := by decide +kernel
theorem dX6_copy_11 : decode cX6_copy 11 = .ok (.aload_n 2, 1) := by decide +kernel
theorem dX6_copy_12 : decode cX6_copy 12 = .ok (.iload_n 3, 1) := by decide +kernel
theorem dX6_copy_13 : decode cX6_copy 13 = .ok (.iload 4, 2) := by decide +kernel
theorem dX6_copy_15 : decode cX6_copy 15 = .ok (.iadd, 1) := by decide +kernel
theorem dX6_copy_16 : decode cX6_copy 16 = .ok (.aload_n 0, 1) := by decide +kernel
theorem dX6_copy_17 : decode cX6_copy 17 = .ok (.iload_n 1, 1) := by decide +kernel
theorem dX6_copy_18 : decode cX6_copy 18 = .ok (.iload 4, 2) := by decide +kernel
theorem dX6_copy_20 : decode cX6_copy 20 = .ok (.iadd, 1) := by decide +kernel
theorem dX6_copy_21 : decode cX6_copy 21 = .ok (.iaload, 1) := by decide +kernel
theorem dX6_copy_22 : decode cX6_copy 22 = .ok (.iastore, 1) := by decide +kernel
theorem dX6_copy_23 : decode cX6_copy 23 = .ok (.iinc 4 1, 3) := by decide +kernel
theorem dX6_copy_26 : decode cX6_copy 26 = .ok (.goto (-23), 3) := by decide +kernel
theorem dX6_copy_29 : decode cX6_copy 29 = .ok (.return_, 1) := by decide +kernel
theorem dX6_within_0 : decode cX6_within 0 = .ok (.iload_n 0, 1) := by decide +kernel
theorem dX6_within_1 : decode cX6_within 1 = .ok (.iload_n 1, 1) := by decide +kernel
theorem dX6_within_2 : decode cX6_within 2 = .ok (.if_icmp .lt 12, 3) := by decide +kernel
theorem dX6_within_5 : decode cX6_within 5 = .ok (.iload_n 0, 1) := by decide +kernel
theorem dX6_within_6 : decode cX6_within 6 = .ok (.iload_n 2, 1) := by decide +kernel
theorem dX6_within_7 : decode cX6_within 7 = .ok (.if_icmp .gt 7, 3) := by decide +kernel
theorem dX6_within_10 : decode cX6_within 10 = .ok (.iconst 1, 1) := by decide +kernel
theorem dX6_within_11 : decode cX6_within 11 = .ok (.goto 4, 3) := by decide +kernel
theorem dX6_within_14 : decode cX6_within 14 = .ok (.iconst 0, 1) := by decide +kernel
theorem dX6_within_15 : decode cX6_within 15 = .ok (.ireturn, 1) := by decide +kernel
theorem dX6_record_0 : decode cX6_record 0 = .ok (.aload_n 0, 1) := by decide +kernel
theorem dX6_record_1 : decode cX6_record 1 = .ok (.getfield 34, 3) := by decide +kernel
theorem dX6_record_4 : decode cX6_record 4 = .ok (.iconst 4, 1) := by decide +kernel
theorem dX6_record_5 : decode cX6_record 5 = .ok (.if_icmp .ne 44, 3) := by decide +kernel
theorem dX6_record_8 : decode cX6_record 8 = .ok (.iconst 0, 1) := by decide +kernel
theorem dX6_record_9 : decode cX6_record 9 = .ok (.istore_n 1, 1) := by decide +kernel
theorem dX6_record_10 : decode cX6_record 10 = .ok (.iload_n 1, 1) := by decide +kernel
theorem dX6_record_11 : decode cX6_record 11 = .ok (.sipush 1047, 3) := by decide +kernel
theorem dX6_record_14 : decode cX6_record 14 = .ok (.if_icmp .ge 25, 3) := by decide +kernel
theorem dX6_record_17 : decode cX6_record 17 = .ok (.aload_n 0, 1) := by decide +kernel
theorem dX6_record_18 : decode cX6_record 18 = .ok (.getfield 16, 3) := by decide +kernel
theorem dX6_record_21 : decode cX6_record 21 = .ok (.iload_n 1, 1) := by decide +kernel
theorem dX6_record_22 : decode cX6_record 22 = .ok (.aload_n 0, 1) := by decide +kernel
theorem dX6_record_23 : decode cX6_record 23 = .ok (.getfield 16, 3) := by decide +kernel
theorem dX6_record_26 : decode cX6_record 26 = .ok (.iload_n 1, 1) := by decide +kernel
theorem dX6_record_27 : decode cX6_record 27 = .ok (.sipush 349, 3) := by decide +kernel
theorem dX6_record_30 : decode cX6_record 30 = .ok (.iadd, 1) := by decide +kernel
theorem dX6_record_31 : decode cX6_record 31 = .ok (.iaload, 1) := by decide +kernel
theorem dX6_record_32 : decode cX6_record 32 = .ok (.iastore, 1) := by decide +kernel
theorem dX6_record_33 : decode cX6_record 33 = .ok (.iinc 1 1, 3) := by decide +kernel
theorem dX6_record_36 : decode cX6_record 36 = .ok (.goto (-26), 3) := by decide +kernel
theorem dX6_record_39 : decode cX6_record 39 = .ok (.aload_n 0, 1) := by decide +kernel
theorem dX6_record_40 : decode cX6_record 40 = .ok (.dup, 1) := by decide +kernel
theorem dX6_record_41 : decode cX6_record 41 = .ok (.getfield 34, 3) := by decide +kernel
theorem dX6_record_44 : decode cX6_record 44 = .ok (.iconst 1, 1) := by decide +kernel
theorem dX6_record_45 : decode cX6_record 45 = .ok (.isub, 1) := by decide +kernel
theorem dX6_record_46 : decode cX6_record 46 = .ok (.putfield 34, 3) := by decide +kernel
theorem dX6_record_49 : decode cX6_record 49 = .ok (.aload_n 0, 1) := by decide +kernel
theorem dX6_record_50 : decode cX6_record 50 = .ok (.getfield 7, 3) := by decide +kernel
theorem dX6_record_53 : decode cX6_record 53 = .ok (.iconst 0, 1) := by decide +kernel
theorem dX6_record_54 : decode cX6_record 54 = .ok (.aload_n 0, 1) := by decide +kernel
theorem dX6_record_55 : decode cX6_record 55 = .ok (.getfield 16, 3) := by decide +kernel
theorem dX6_record_58 : decode cX6_record 58 = .ok (.aload_n 0, 1) := by decide +kernel
theorem dX6_record_59 : decode cX6_record 59 = .ok (.getfield 34, 3) := by decide +kernel
theorem dX6_record_62 : decode cX6_record 62 = .ok (.sipush 349, 3) := by decide +kernel
theorem dX6_record_65 : decode cX6_record 65 = .ok (.imul, 1) := by decide +kernel
theorem dX6_record_66 : decode cX6_record 66 = .ok (.invokestatic 38, 3) := by decide +kernel
theorem dX6_record_69 : decode cX6_record 69 = .ok (.aload_n 0, 1) := by decide +kernel
theorem dX6_record_70 : decode cX6_record 70 = .ok (.dup, 1) := by decide +kernel
theorem dX6_record_71 : decode cX6_record 71 = .ok (.getfield 34, 3) := by decide +kernel
theorem dX6_record_74 : decode cX6_record 74 = .ok (.iconst 1, 1) := by decide +kernel
theorem dX6_record_75 : decode cX6_record 75 = .ok (.iadd, 1) := by decide +kernel
theorem dX6_record_76 : decode cX6_record 76 = .ok (.putfield 34, 3) := by decide +kernel
theorem dX6_record_79 : decode cX6_record 79 = .ok (.return_, 1) := by decide +kernel
theorem dX6_isOracle_0 : decode cX6_isOracle 0 = .ok (.iload_n 1, 1) := by decide +kernel
theorem dX6_isOracle_1 : decode cX6_isOracle 1 = .ok (.iconst 0, 1) := by decide +kernel
theorem dX6_isOracle_2 : decode cX6_isOracle 2 = .ok (.aload_n 0, 1) := by decide +kernel
theorem dX6_isOracle_3 : decode cX6_isOracle 3 = .ok (.getfield 7, 3) := by decide +kernel
theorem dX6_isOracle_6 : decode cX6_isOracle 6 = .ok (.bipush 7, 2) := by decide +kernel
theorem dX6_isOracle_8 : decode cX6_isOracle 8 = .ok (.iaload, 1) := by decide +kernel
theorem dX6_isOracle_9 : decode cX6_isOracle 9 = .ok (.iconst 1, 1) := by decide +kernel
theorem dX6_isOracle_10 : decode cX6_isOracle 10 = .ok (.isub, 1) := by decide +kernel
theorem dX6_isOracle_11 : decode cX6_isOracle 11 = .ok (.invokestatic 42, 3) := by decide +kernel
theorem dX6_isOracle_14 : decode cX6_isOracle 14 = .ok (.ireturn, 1) := by decide +kernel
theorem dX6_isAddress_0 : decode cX6_isAddress 0 = .ok (.iload_n 0, 1) := by decide +kernel
theorem dX6_isAddress_1 : decode cX6_isAddress 1 = .ok (.iconst 0, 1) := by decide +kernel
theorem dX6_isAddress_2 : decode cX6_isAddress 2 = .ok (.bipush 63, 2) := by decide +kernel
theorem dX6_isAddress_4 : decode cX6_isAddress 4 = .ok (.invokestatic 42, 3) := by decide +kernel
theorem dX6_isAddress_7 : decode cX6_isAddress 7 = .ok (.ireturn, 1) := by decide +kernel
theorem dX6_isTaken_0 : decode cX6_isTaken 0 = .ok (.iload_n 0, 1) := by decide +kernel
theorem dX6_isTaken_1 : decode cX6_isTaken 1 = .ok (.iconst 0, 1) := by decide +kernel
theorem dX6_isTaken_2 : decode cX6_isTaken 2 = .ok (.iconst 1, 1) := by decide +kernel
theorem dX6_isTaken_3 : decode cX6_isTaken 3 = .ok (.invokestatic 42, 3) := by decide +kernel
theorem dX6_isTaken_6 : decode cX6_isTaken 6 = .ok (.ireturn, 1) := by decide +kernel
theorem dX6_part_0 : decode cX6_part 0 = .ok (.aload_n 0, 1) := by decide +kernel
theorem dX6_part_1 : decode cX6_part 1 = .ok (.getfield 7, 3) := by decide +kernel
theorem dX6_part_4 : decode cX6_part 4 = .ok (.bipush 73, 2) := by decide +kernel
theorem dX6_part_6 : decode cX6_part 6 = .ok (.bipush 42, 2) := by decide +kernel
theorem dX6_part_8 : decode cX6_part 8 = .ok (.iload_n 1, 1) := by decide +kernel
theorem dX6_part_9 : decode cX6_part 9 = .ok (.imul, 1) := by decide +kernel
theorem dX6_part_10 : decode cX6_part 10 = .ok (.iadd, 1) := by decide +kernel
theorem dX6_part_11 : decode cX6_part 11 = .ok (.iload_n 2, 1) := by decide +kernel
theorem dX6_part_12 : decode cX6_part 12 = .ok (.iadd, 1) := by decide +kernel
theorem dX6_part_13 : decode cX6_part 13 = .ok (.iaload, 1) := by decide +kernel
theorem dX6_part_14 : decode cX6_part 14 = .ok (.ireturn, 1) := by decide +kernel
theorem dX6_setPart_0 : decode cX6_setPart 0 = .ok (.aload_n 0, 1) := by decide +kernel
theorem dX6_setPart_1 : decode cX6_setPart 1 = .ok (.getfield 7, 3) := by decide +kernel
theorem dX6_setPart_4 : decode cX6_setPart 4 = .ok (.bipush 73, 2) := by decide +kernel
theorem dX6_setPart_6 : decode cX6_setPart 6 = .ok (.bipush 42, 2) := by decide +kernel
theorem dX6_setPart_8 : decode cX6_setPart 8 = .ok (.iload_n 1, 1) := by decide +kernel
theorem dX6_setPart_9 : decode cX6_setPart 9 = .ok (.imul, 1) := by decide +kernel
theorem dX6_setPart_10 : decode cX6_setPart 10 = .ok (.iadd, 1) := by decide +kernel
theorem dX6_setPart_11 : decode cX6_setPart 11 = .ok (.iload_n 2, 1) := by decide +kernel
theorem dX6_setPart_12 : decode cX6_setPart 12 = .ok (.iadd, 1) := by decide +kernel
theorem dX6_setPart_13 : decode cX6_setPart 13 = .ok (.iload_n 3, 1) := by decide +kernel
theorem dX6_setPart_14 : decode cX6_setPart 14 = .ok (.iastore, 1) := by decide +kernel
theorem dX6_setPart_15 : decode cX6_setPart 15 = .ok (.return_, 1) := by decide +kernel
theorem dX6_addPart_0 : decode cX6_addPart 0 = .ok (.aload_n 0, 1) := by decide +kernel
theorem dX6_addPart_1 : decode cX6_addPart 1 = .ok (.getfield 7, 3) := by decide +kernel
theorem dX6_addPart_4 : decode cX6_addPart 4 = .ok (.bipush 73, 2) := by decide +kernel
theorem dX6_addPart_6 : decode cX6_addPart 6 = .ok (.bipush 42, 2) := by decide +kernel
theorem dX6_addPart_8 : decode cX6_addPart 8 = .ok (.iload_n 1, 1) := by decide +kernel
theorem dX6_addPart_9 : decode cX6_addPart 9 = .ok (.imul, 1) := by decide +kernel
theorem dX6_addPart_10 : decode cX6_addPart 10 = .ok (.iadd, 1) := by decide +kernel
theorem dX6_addPart_11 : decode cX6_addPart 11 = .ok (.iload_n 2, 1) := by decide +kernel
theorem dX6_addPart_12 : decode cX6_addPart 12 = .ok (.iadd, 1) := by decide +kernel
theorem dX6_addPart_13 : decode cX6_addPart 13 = .ok (.dup2, 1) := by decide +kernel
theorem dX6_addPart_14 : decode cX6_addPart 14 = .ok (.iaload, 1) := by decide +kernel
theorem dX6_addPart_15 : decode cX6_addPart 15 = .ok (.iload_n 3, 1) := by decide +kernel
theorem dX6_addPart_16 : decode cX6_addPart 16 = .ok (.iadd, 1) := by decide +kernel
theorem dX6_addPart_17 : decode cX6_addPart 17 = .ok (.iastore, 1) := by decide +kernel
theorem dX6_addPart_18 : decode cX6_addPart 18 = .ok (.return_, 1) := by decide +kernel
theorem dX6_loanPart_0 : decode cX6_loanPart 0 = .ok (.aload_n 0, 1) := by decide +kernel
theorem dX6_loanPart_1 : decode cX6_loanPart 1 = .ok (.getfield 7, 3) := by decide +kernel
theorem dX6_loanPart_4 : decode cX6_loanPart 4 = .ok (.sipush 325, 3) := by decide +kernel
theorem dX6_loanPart_7 : decode cX6_loanPart 7 = .ok (.iconst 3, 1) := by decide +kernel
theorem dX6_loanPart_8 : decode cX6_loanPart 8 = .ok (.iload_n 1, 1) := by decide +kernel
theorem dX6_loanPart_9 : decode cX6_loanPart 9 = .ok (.imul, 1) := by decide +kernel
theorem dX6_loanPart_10 : decode cX6_loanPart 10 = .ok (.iadd, 1) := by decide +kernel
theorem dX6_loanPart_11 : decode cX6_loanPart 11 = .ok (.iload_n 2, 1) := by decide +kernel
theorem dX6_loanPart_12 : decode cX6_loanPart 12 = .ok (.iadd, 1) := by decide +kernel
theorem dX6_loanPart_13 : decode cX6_loanPart 13 = .ok (.iaload, 1) := by decide +kernel
theorem dX6_loanPart_14 : decode cX6_loanPart 14 = .ok (.ireturn, 1) := by decide +kernel
theorem dX6_hasTable_0 : decode cX6_hasTable 0 = .ok (.aload_n 0, 1) := by decide +kernel
theorem dX6_hasTable_1 : decode cX6_hasTable 1 = .ok (.iload_n 1, 1) := by decide +kernel
theorem dX6_hasTable_2 : decode cX6_hasTable 2 = .ok (.iconst 0, 1) := by decide +kernel
theorem dX6_hasTable_3 : decode cX6_hasTable 3 = .ok (.invokevirtual 46, 3) := by decide +kernel
theorem dX6_hasTable_6 : decode cX6_hasTable 6 = .ok (.iconst 1, 1) := by decide +kernel
theorem dX6_hasTable_7 : decode cX6_hasTable 7 = .ok (.iconst 3, 1) := by decide +kernel
theorem dX6_hasTable_8 : decode cX6_hasTable 8 = .ok (.invokestatic 42, 3) := by decide +kernel
theorem dX6_hasTable_11 : decode cX6_hasTable 11 = .ok (.ireturn, 1) := by decide +kernel
theorem dX6_sizeOf_0 : decode cX6_sizeOf 0 = .ok (.aload_n 0, 1) := by decide +kernel
theorem dX6_sizeOf_1 : decode cX6_sizeOf 1 = .ok (.iload_n 1, 1) := by decide +kernel
theorem dX6_sizeOf_2 : decode cX6_sizeOf 2 = .ok (.invokevirtual 50, 3) := by decide +kernel
theorem dX6_sizeOf_5 : decode cX6_sizeOf 5 = .ok (.ifCond .eq 14, 3) := by decide +kernel
theorem dX6_sizeOf_8 : decode cX6_sizeOf 8 = .ok (.iconst 1, 1) := by decide +kernel
theorem dX6_sizeOf_9 : decode cX6_sizeOf 9 = .ok (.aload_n 0, 1) := by decide +kernel
theorem dX6_sizeOf_10 : decode cX6_sizeOf 10 = .ok (.iload_n 1, 1) := by decide +kernel
theorem dX6_sizeOf_11 : decode cX6_sizeOf 11 = .ok (.iconst 1, 1) := by decide +kernel
theorem dX6_sizeOf_12 : decode cX6_sizeOf 12 = .ok (.invokevirtual 46, 3) := by decide +kernel
theorem dX6_sizeOf_15 : decode cX6_sizeOf 15 = .ok (.ishl, 1) := by decide +kernel
theorem dX6_sizeOf_16 : decode cX6_sizeOf 16 = .ok (.goto 4, 3) := by decide +kernel
theorem dX6_sizeOf_19 : decode cX6_sizeOf 19 = .ok (.iconst 0, 1) := by decide +kernel
theorem dX6_sizeOf_20 : decode cX6_sizeOf 20 = .ok (.ireturn, 1) := by decide +kernel
theorem dX6_indexOf_0 : decode cX6_indexOf 0 = .ok (.aload_n 0, 1) := by decide +kernel
theorem dX6_indexOf_1 : decode cX6_indexOf 1 = .ok (.iload_n 1, 1) := by decide +kernel
theorem dX6_indexOf_2 : decode cX6_indexOf 2 = .ok (.iconst 0, 1) := by decide +kernel
theorem dX6_indexOf_3 : decode cX6_indexOf 3 = .ok (.invokevirtual 46, 3) := by decide +kernel
theorem dX6_indexOf_6 : decode cX6_indexOf 6 = .ok (.istore_n 3, 1) := by decide +kernel
theorem dX6_indexOf_7 : decode cX6_indexOf 7 = .ok (.iload_n 3, 1) := by decide +kernel
theorem dX6_indexOf_8 : decode cX6_indexOf 8 = .ok (.iconst 1, 1) := by decide +kernel
theorem dX6_indexOf_9 : decode cX6_indexOf 9 = .ok (.if_icmp .ne 7, 3) := by decide +kernel
theorem dX6_indexOf_12 : decode cX6_indexOf 12 = .ok (.iload_n 2, 1) := by decide +kernel
theorem dX6_indexOf_13 : decode cX6_indexOf 13 = .ok (.goto 25, 3) := by decide +kernel
theorem dX6_indexOf_16 : decode cX6_indexOf 16 = .ok (.iload_n 3, 1) := by decide +kernel
theorem dX6_indexOf_17 : decode cX6_indexOf 17 = .ok (.iconst 2, 1) := by decide +kernel
theorem dX6_indexOf_18 : decode cX6_indexOf 18 = .ok (.if_icmp .ne 12, 3) := by decide +kernel
theorem dX6_indexOf_21 : decode cX6_indexOf 21 = .ok (.aload_n 0, 1) := by decide +kernel
theorem dX6_indexOf_22 : decode cX6_indexOf 22 = .ok (.getfield 7, 3) := by decide +kernel
theorem dX6_indexOf_25 : decode cX6_indexOf 25 = .ok (.iconst 3, 1) := by decide +kernel
theorem dX6_indexOf_26 : decode cX6_indexOf 26 = .ok (.iaload, 1) := by decide +kernel
theorem dX6_indexOf_27 : decode cX6_indexOf 27 = .ok (.goto 11, 3) := by decide +kernel
theorem dX6_indexOf_30 : decode cX6_indexOf 30 = .ok (.iload_n 2, 1) := by decide +kernel
theorem dX6_indexOf_31 : decode cX6_indexOf 31 = .ok (.aload_n 0, 1) := by decide +kernel
theorem dX6_indexOf_32 : decode cX6_indexOf 32 = .ok (.getfield 7, 3) := by decide +kernel
theorem dX6_indexOf_35 : decode cX6_indexOf 35 = .ok (.iconst 3, 1) := by decide +kernel
theorem dX6_indexOf_36 : decode cX6_indexOf 36 = .ok (.iaload, 1) := by decide +kernel
theorem dX6_indexOf_37 : decode cX6_indexOf 37 = .ok (.ixor, 1) := by decide +kernel
theorem dX6_indexOf_38 : decode cX6_indexOf 38 = .ok (.istore 4, 2) := by decide +kernel
theorem dX6_indexOf_40 : decode cX6_indexOf 40 = .ok (.iload 4, 2) := by decide +kernel
theorem dX6_indexOf_42 : decode cX6_indexOf 42 = .ok (.aload_n 0, 1) := by decide +kernel
theorem dX6_indexOf_43 : decode cX6_indexOf 43 = .ok (.iload_n 1, 1) := by decide +kernel
theorem dX6_indexOf_44 : decode cX6_indexOf 44 = .ok (.invokevirtual 54, 3) := by decide +kernel
theorem dX6_indexOf_47 : decode cX6_indexOf 47 = .ok (.irem, 1) := by decide +kernel
theorem dX6_indexOf_48 : decode cX6_indexOf 48 = .ok (.ireturn, 1) := by decide +kernel
theorem dX6_counterOf_0 : decode cX6_counterOf 0 = .ok (.aload_n 0, 1) := by decide +kernel
theorem dX6_counterOf_1 : decode cX6_counterOf 1 = .ok (.iload_n 1, 1) := by decide +kernel
theorem dX6_counterOf_2 : decode cX6_counterOf 2 = .ok (.bipush 10, 2) := by decide +kernel
theorem dX6_counterOf_4 : decode cX6_counterOf 4 = .ok (.aload_n 0, 1) := by decide +kernel
theorem dX6_counterOf_5 : decode cX6_counterOf 5 = .ok (.iload_n 1, 1) := by decide +kernel
theorem dX6_counterOf_6 : decode cX6_counterOf 6 = .ok (.iload_n 2, 1) := by decide +kernel
theorem dX6_counterOf_7 : decode cX6_counterOf 7 = .ok (.invokevirtual 58, 3) := by decide +kernel
theorem dX6_counterOf_10 : decode cX6_counterOf 10 = .ok (.iadd, 1) := by decide +kernel
theorem dX6_counterOf_11 : decode cX6_counterOf 11 = .ok (.invokevirtual 46, 3) := by decide +kernel
theorem dX6_counterOf_14 : decode cX6_counterOf 14 = .ok (.ireturn, 1) := by decide +kernel
theorem dX6_hasSeat_0 : decode cX6_hasSeat 0 = .ok (.aload_n 0, 1) := by decide +kernel
theorem dX6_hasSeat_1 : decode cX6_hasSeat 1 = .ok (.iload_n 1, 1) := by decide +kernel
theorem dX6_hasSeat_2 : decode cX6_hasSeat 2 = .ok (.iconst 3, 1) := by decide +kernel
theorem dX6_hasSeat_3 : decode cX6_hasSeat 3 = .ok (.invokevirtual 46, 3) := by decide +kernel
theorem dX6_hasSeat_6 : decode cX6_hasSeat 6 = .ok (.iconst (-1), 1) := by decide +kernel
theorem dX6_hasSeat_7 : decode cX6_hasSeat 7 = .ok (.if_icmp .eq 7, 3) := by decide +kernel
theorem dX6_hasSeat_10 : decode cX6_hasSeat 10 = .ok (.iconst 1, 1) := by decide +kernel
theorem dX6_hasSeat_11 : decode cX6_hasSeat 11 = .ok (.goto 4, 3) := by decide +kernel
theorem dX6_hasSeat_14 : decode cX6_hasSeat 14 = .ok (.iconst 0, 1) := by decide +kernel
theorem dX6_hasSeat_15 : decode cX6_hasSeat 15 = .ok (.ireturn, 1) := by decide +kernel
theorem dX6_isIn_0 : decode cX6_isIn 0 = .ok (.aload_n 0, 1) := by decide +kernel
theorem dX6_isIn_1 : decode cX6_isIn 1 = .ok (.iload_n 1, 1) := by decide +kernel
theorem dX6_isIn_2 : decode cX6_isIn 2 = .ok (.invokevirtual 61, 3) := by decide +kernel
theorem dX6_isIn_5 : decode cX6_isIn 5 = .ok (.ifCond .eq 16, 3) := by decide +kernel
theorem dX6_isIn_8 : decode cX6_isIn 8 = .ok (.aload_n 0, 1) := by decide +kernel
theorem dX6_isIn_9 : decode cX6_isIn 9 = .ok (.iload_n 1, 1) := by decide +kernel
theorem dX6_isIn_10 : decode cX6_isIn 10 = .ok (.iconst 2, 1) := by decide +kernel
theorem dX6_isIn_11 : decode cX6_isIn 11 = .ok (.invokevirtual 46, 3) := by decide +kernel
theorem dX6_isIn_14 : decode cX6_isIn 14 = .ok (.ifCond .le 7, 3) := by decide +kernel
theorem dX6_isIn_17 : decode cX6_isIn 17 = .ok (.iconst 1, 1) := by decide +kernel
theorem dX6_isIn_18 : decode cX6_isIn 18 = .ok (.goto 4, 3) := by decide +kernel
theorem dX6_isIn_21 : decode cX6_isIn 21 = .ok (.iconst 0, 1) := by decide +kernel
theorem dX6_isIn_22 : decode cX6_isIn 22 = .ok (.ireturn, 1) := by decide +kernel
theorem dX6_plainWord_0 : decode cX6_plainWord 0 = .ok (.aload_n 0, 1) := by decide +kernel
theorem dX6_plainWord_1 : decode cX6_plainWord 1 = .ok (.iload_n 1, 1) := by decide +kernel
theorem dX6_plainWord_2 : decode cX6_plainWord 2 = .ok (.iconst 0, 1) := by decide +kernel
theorem dX6_plainWord_3 : decode cX6_plainWord 3 = .ok (.invokevirtual 46, 3) := by decide +kernel
theorem dX6_plainWord_6 : decode cX6_plainWord 6 = .ok (.ifCond .ne 12, 3) := by decide +kernel
theorem dX6_plainWord_9 : decode cX6_plainWord 9 = .ok (.aload_n 0, 1) := by decide +kernel
theorem dX6_plainWord_10 : decode cX6_plainWord 10 = .ok (.iload_n 1, 1) := by decide +kernel
theorem dX6_plainWord_11 : decode cX6_plainWord 11 = .ok (.iconst 1, 1) := by decide +kernel
theorem dX6_plainWord_12 : decode cX6_plainWord 12 = .ok (.invokevirtual 46, 3) := by decide +kernel
theorem dX6_plainWord_15 : decode cX6_plainWord 15 = .ok (.goto 18, 3) := by decide +kernel
theorem dX6_plainWord_18 : decode cX6_plainWord 18 = .ok (.aload_n 0, 1) := by decide +kernel
theorem dX6_plainWord_19 : decode cX6_plainWord 19 = .ok (.iload_n 1, 1) := by decide +kernel
theorem dX6_plainWord_20 : decode cX6_plainWord 20 = .ok (.iload_n 2, 1) := by decide +kernel
theorem dX6_plainWord_21 : decode cX6_plainWord 21 = .ok (.invokevirtual 64, 3) := by decide +kernel
theorem dX6_plainWord_24 : decode cX6_plainWord 24 = .ok (.iconst 2, 1) := by decide +kernel
theorem dX6_plainWord_25 : decode cX6_plainWord 25 = .ok (.if_icmp .lt 7, 3) := by decide +kernel
theorem dX6_plainWord_28 : decode cX6_plainWord 28 = .ok (.iconst 1, 1) := by decide +kernel
theorem dX6_plainWord_29 : decode cX6_plainWord 29 = .ok (.goto 4, 3) := by decide +kernel
theorem dX6_plainWord_32 : decode cX6_plainWord 32 = .ok (.iconst 0, 1) := by decide +kernel
theorem dX6_plainWord_33 : decode cX6_plainWord 33 = .ok (.ireturn, 1) := by decide +kernel
theorem dX6_wordOf_0 : decode cX6_wordOf 0 = .ok (.aload_n 0, 1) := by decide +kernel
theorem dX6_wordOf_1 : decode cX6_wordOf 1 = .ok (.iload_n 1, 1) := by decide +kernel
theorem dX6_wordOf_2 : decode cX6_wordOf 2 = .ok (.iconst 0, 1) := by decide +kernel
theorem dX6_wordOf_3 : decode cX6_wordOf 3 = .ok (.invokevirtual 46, 3) := by decide +kernel
theorem dX6_wordOf_6 : decode cX6_wordOf 6 = .ok (.iconst 4, 1) := by decide +kernel
theorem dX6_wordOf_7 : decode cX6_wordOf 7 = .ok (.if_icmp .eq 10, 3) := by decide +kernel
theorem dX6_wordOf_10 : decode cX6_wordOf 10 = .ok (.aload_n 0, 1) := by decide +kernel
theorem dX6_wordOf_11 : decode cX6_wordOf 11 = .ok (.iload_n 1, 1) := by decide +kernel
theorem dX6_wordOf_12 : decode cX6_wordOf 12 = .ok (.iload_n 2, 1) := by decide +kernel
theorem dX6_wordOf_13 : decode cX6_wordOf 13 = .ok (.invokevirtual 67, 3) := by decide +kernel
theorem dX6_wordOf_16 : decode cX6_wordOf 16 = .ok (.ireturn, 1) := by decide +kernel
theorem dX6_wordOf_17 : decode cX6_wordOf 17 = .ok (.iconst 0, 1) := by decide +kernel
theorem dX6_wordOf_18 : decode cX6_wordOf 18 = .ok (.istore_n 3, 1) := by decide +kernel
theorem dX6_wordOf_19 : decode cX6_wordOf 19 = .ok (.iconst 0, 1) := by decide +kernel
theorem dX6_wordOf_20 : decode cX6_wordOf 20 = .ok (.istore 4, 2) := by decide +kernel
theorem dX6_wordOf_22 : decode cX6_wordOf 22 = .ok (.iload 4, 2) := by decide +kernel
theorem dX6_wordOf_24 : decode cX6_wordOf 24 = .ok (.aload_n 0, 1) := by decide +kernel
theorem dX6_wordOf_25 : decode cX6_wordOf 25 = .ok (.getfield 7, 3) := by decide +kernel
theorem dX6_wordOf_28 : decode cX6_wordOf 28 = .ok (.bipush 7, 2) := by decide +kernel
theorem dX6_wordOf_30 : decode cX6_wordOf 30 = .ok (.iaload, 1) := by decide +kernel
theorem dX6_wordOf_31 : decode cX6_wordOf 31 = .ok (.if_icmp .ge 61, 3) := by decide +kernel
theorem dX6_wordOf_34 : decode cX6_wordOf 34 = .ok (.aload_n 0, 1) := by decide +kernel
theorem dX6_wordOf_35 : decode cX6_wordOf 35 = .ok (.iload 4, 2) := by decide +kernel
theorem dX6_wordOf_37 : decode cX6_wordOf 37 = .ok (.iconst 0, 1) := by decide +kernel
theorem dX6_wordOf_38 : decode cX6_wordOf 38 = .ok (.invokevirtual 46, 3) := by decide +kernel
theorem dX6_wordOf_41 : decode cX6_wordOf 41 = .ok (.iconst 4, 1) := by decide +kernel
theorem dX6_wordOf_42 : decode cX6_wordOf 42 = .ok (.if_icmp .eq 44, 3) := by decide +kernel
theorem dX6_wordOf_45 : decode cX6_wordOf 45 = .ok (.aload_n 0, 1) := by decide +kernel
theorem dX6_wordOf_46 : decode cX6_wordOf 46 = .ok (.iload 4, 2) := by decide +kernel
theorem dX6_wordOf_48 : decode cX6_wordOf 48 = .ok (.invokevirtual 70, 3) := by decide +kernel
theorem dX6_wordOf_51 : decode cX6_wordOf 51 = .ok (.ifCond .eq 35, 3) := by decide +kernel
theorem dX6_wordOf_54 : decode cX6_wordOf 54 = .ok (.iload_n 3, 1) := by decide +kernel
theorem dX6_wordOf_55 : decode cX6_wordOf 55 = .ok (.aload_n 0, 1) := by decide +kernel
theorem dX6_wordOf_56 : decode cX6_wordOf 56 = .ok (.iload 4, 2) := by decide +kernel
theorem dX6_wordOf_58 : decode cX6_wordOf 58 = .ok (.iload_n 2, 1) := by decide +kernel
theorem dX6_wordOf_59 : decode cX6_wordOf 59 = .ok (.invokevirtual 67, 3) := by decide +kernel
theorem dX6_wordOf_62 : decode cX6_wordOf 62 = .ok (.iconst 1, 1) := by decide +kernel
theorem dX6_wordOf_63 : decode cX6_wordOf 63 = .ok (.if_icmp .ne 13, 3) := by decide +kernel
theorem dX6_wordOf_66 : decode cX6_wordOf 66 = .ok (.aload_n 0, 1) := by decide +kernel
theorem dX6_wordOf_67 : decode cX6_wordOf 67 = .ok (.iload 4, 2) := by decide +kernel
theorem dX6_wordOf_69 : decode cX6_wordOf 69 = .ok (.iconst 2, 1) := by decide +kernel
theorem dX6_wordOf_70 : decode cX6_wordOf 70 = .ok (.invokevirtual 46, 3) := by decide +kernel
theorem dX6_wordOf_73 : decode cX6_wordOf 73 = .ok (.goto 11, 3) := by decide +kernel
theorem dX6_wordOf_76 : decode cX6_wordOf 76 = .ok (.aload_n 0, 1) := by decide +kernel
theorem dX6_wordOf_77 : decode cX6_wordOf 77 = .ok (.iload 4, 2) := by decide +kernel
theorem dX6_wordOf_79 : decode cX6_wordOf 79 = .ok (.iconst 2, 1) := by decide +kernel
theorem dX6_wordOf_80 : decode cX6_wordOf 80 = .ok (.invokevirtual 46, 3) := by decide +kernel
theorem dX6_wordOf_83 : decode cX6_wordOf 83 = .ok (.ineg, 1) := by decide +kernel
theorem dX6_wordOf_84 : decode cX6_wordOf 84 = .ok (.iadd, 1) := by decide +kernel
theorem dX6_wordOf_85 : decode cX6_wordOf 85 = .ok (.istore_n 3, 1) := by decide +kernel
theorem dX6_wordOf_86 : decode cX6_wordOf 86 = .ok (.iinc 4 1, 3) := by decide +kernel
theorem dX6_wordOf_89 : decode cX6_wordOf 89 = .ok (.goto (-67), 3) := by decide +kernel
theorem dX6_wordOf_92 : decode cX6_wordOf 92 = .ok (.iload_n 3, 1) := by decide +kernel
theorem dX6_wordOf_93 : decode cX6_wordOf 93 = .ok (.ifCond .ge 7, 3) := by decide +kernel
theorem dX6_wordOf_96 : decode cX6_wordOf 96 = .ok (.iconst 1, 1) := by decide +kernel
theorem dX6_wordOf_97 : decode cX6_wordOf 97 = .ok (.goto 4, 3) := by decide +kernel
theorem dX6_wordOf_100 : decode cX6_wordOf 100 = .ok (.iconst 0, 1) := by decide +kernel
theorem dX6_wordOf_101 : decode cX6_wordOf 101 = .ok (.ireturn, 1) := by decide +kernel
theorem dX6_stakeOf_0 : decode cX6_stakeOf 0 = .ok (.aload_n 0, 1) := by decide +kernel
theorem dX6_stakeOf_1 : decode cX6_stakeOf 1 = .ok (.iload_n 1, 1) := by decide +kernel
theorem dX6_stakeOf_2 : decode cX6_stakeOf 2 = .ok (.invokevirtual 70, 3) := by decide +kernel
theorem dX6_stakeOf_5 : decode cX6_stakeOf 5 = .ok (.ifCond .ne 5, 3) := by decide +kernel
theorem dX6_stakeOf_8 : decode cX6_stakeOf 8 = .ok (.iconst 0, 1) := by decide +kernel
theorem dX6_stakeOf_9 : decode cX6_stakeOf 9 = .ok (.ireturn, 1) := by decide +kernel
theorem dX6_stakeOf_10 : decode cX6_stakeOf 10 = .ok (.aload_n 0, 1) := by decide +kernel
theorem dX6_stakeOf_11 : decode cX6_stakeOf 11 = .ok (.iload_n 1, 1) := by decide +kernel
theorem dX6_stakeOf_12 : decode cX6_stakeOf 12 = .ok (.invokevirtual 50, 3) := by decide +kernel
theorem dX6_stakeOf_15 : decode cX6_stakeOf 15 = .ok (.ifCond .eq 18, 3) := by decide +kernel
theorem dX6_stakeOf_18 : decode cX6_stakeOf 18 = .ok (.aload_n 0, 1) := by decide +kernel
theorem dX6_stakeOf_19 : decode cX6_stakeOf 19 = .ok (.iload_n 1, 1) := by decide +kernel
theorem dX6_stakeOf_20 : decode cX6_stakeOf 20 = .ok (.iload_n 2, 1) := by decide +kernel
theorem dX6_stakeOf_21 : decode cX6_stakeOf 21 = .ok (.invokevirtual 64, 3) := by decide +kernel
theorem dX6_stakeOf_24 : decode cX6_stakeOf 24 = .ok (.iconst 3, 1) := by decide +kernel
theorem dX6_stakeOf_25 : decode cX6_stakeOf 25 = .ok (.irem, 1) := by decide +kernel
theorem dX6_stakeOf_26 : decode cX6_stakeOf 26 = .ok (.ifCond .ne 7, 3) := by decide +kernel
theorem dX6_stakeOf_29 : decode cX6_stakeOf 29 = .ok (.iconst 1, 1) := by decide +kernel
theorem dX6_stakeOf_30 : decode cX6_stakeOf 30 = .ok (.goto 4, 3) := by decide +kernel
theorem dX6_stakeOf_33 : decode cX6_stakeOf 33 = .ok (.iconst 0, 1) := by decide +kernel
theorem dX6_stakeOf_34 : decode cX6_stakeOf 34 = .ok (.istore_n 3, 1) := by decide +kernel
theorem dX6_stakeOf_35 : decode cX6_stakeOf 35 = .ok (.iload_n 3, 1) := by decide +kernel
theorem dX6_stakeOf_36 : decode cX6_stakeOf 36 = .ok (.ifCond .eq 14, 3) := by decide +kernel
theorem dX6_stakeOf_39 : decode cX6_stakeOf 39 = .ok (.iconst 2, 1) := by decide +kernel
theorem dX6_stakeOf_40 : decode cX6_stakeOf 40 = .ok (.aload_n 0, 1) := by decide +kernel
theorem dX6_stakeOf_41 : decode cX6_stakeOf 41 = .ok (.getfield 7, 3) := by decide +kernel
theorem dX6_stakeOf_44 : decode cX6_stakeOf 44 = .ok (.iconst 0, 1) := by decide +kernel
theorem dX6_stakeOf_45 : decode cX6_stakeOf 45 = .ok (.iaload, 1) := by decide +kernel
theorem dX6_stakeOf_46 : decode cX6_stakeOf 46 = .ok (.imul, 1) := by decide +kernel
theorem dX6_stakeOf_47 : decode cX6_stakeOf 47 = .ok (.goto 9, 3) := by decide +kernel
theorem dX6_stakeOf_50 : decode cX6_stakeOf 50 = .ok (.aload_n 0, 1) := by decide +kernel
theorem dX6_stakeOf_51 : decode cX6_stakeOf 51 = .ok (.getfield 7, 3) := by decide +kernel
theorem dX6_stakeOf_54 : decode cX6_stakeOf 54 = .ok (.iconst 0, 1) := by decide +kernel
theorem dX6_stakeOf_55 : decode cX6_stakeOf 55 = .ok (.iaload, 1) := by decide +kernel
theorem dX6_stakeOf_56 : decode cX6_stakeOf 56 = .ok (.istore 4, 2) := by decide +kernel
theorem dX6_stakeOf_58 : decode cX6_stakeOf 58 = .ok (.iload 4, 2) := by decide +kernel
theorem dX6_stakeOf_60 : decode cX6_stakeOf 60 = .ok (.aload_n 0, 1) := by decide +kernel
theorem dX6_stakeOf_61 : decode cX6_stakeOf 61 = .ok (.iload_n 1, 1) := by decide +kernel
theorem dX6_stakeOf_62 : decode cX6_stakeOf 62 = .ok (.iconst 2, 1) := by decide +kernel
theorem dX6_stakeOf_63 : decode cX6_stakeOf 63 = .ok (.invokevirtual 46, 3) := by decide +kernel
theorem dX6_stakeOf_66 : decode cX6_stakeOf 66 = .ok (.if_icmp .ge 8, 3) := by decide +kernel
theorem dX6_stakeOf_69 : decode cX6_stakeOf 69 = .ok (.iload 4, 2) := by decide +kernel
theorem dX6_stakeOf_71 : decode cX6_stakeOf 71 = .ok (.goto 9, 3) := by decide +kernel
theorem dX6_stakeOf_74 : decode cX6_stakeOf 74 = .ok (.aload_n 0, 1) := by decide +kernel
theorem dX6_stakeOf_75 : decode cX6_stakeOf 75 = .ok (.iload_n 1, 1) := by decide +kernel
theorem dX6_stakeOf_76 : decode cX6_stakeOf 76 = .ok (.iconst 2, 1) := by decide +kernel
theorem dX6_stakeOf_77 : decode cX6_stakeOf 77 = .ok (.invokevirtual 46, 3) := by decide +kernel
theorem dX6_stakeOf_80 : decode cX6_stakeOf 80 = .ok (.ireturn, 1) := by decide +kernel
theorem dX6_isSetting_0 : decode cX6_isSetting 0 = .ok (.iload_n 0, 1) := by decide +kernel
theorem dX6_isSetting_1 : decode cX6_isSetting 1 = .ok (.ifCond .ne 13, 3) := by decide +kernel
theorem dX6_isSetting_4 : decode cX6_isSetting 4 = .ok (.iload_n 1, 1) := by decide +kernel
theorem dX6_isSetting_5 : decode cX6_isSetting 5 = .ok (.iconst 1, 1) := by decide +kernel
theorem dX6_isSetting_6 : decode cX6_isSetting 6 = .ok (.bipush 50, 2) := by decide +kernel
theorem dX6_isSetting_8 : decode cX6_isSetting 8 = .ok (.invokestatic 42, 3) := by decide +kernel
theorem dX6_isSetting_11 : decode cX6_isSetting 11 = .ok (.goto 38, 3) := by decide +kernel
theorem dX6_isSetting_14 : decode cX6_isSetting 14 = .ok (.iload_n 0, 1) := by decide +kernel
theorem dX6_isSetting_15 : decode cX6_isSetting 15 = .ok (.iconst 1, 1) := by decide +kernel
theorem dX6_isSetting_16 : decode cX6_isSetting 16 = .ok (.if_icmp .ne 13, 3) := by decide +kernel
theorem dX6_isSetting_19 : decode cX6_isSetting 19 = .ok (.iload_n 1, 1) := by decide +kernel
theorem dX6_isSetting_20 : decode cX6_isSetting 20 = .ok (.iconst 0, 1) := by decide +kernel
theorem dX6_isSetting_21 : decode cX6_isSetting 21 = .ok (.bipush 50, 2) := by decide +kernel
theorem dX6_isSetting_23 : decode cX6_isSetting 23 = .ok (.invokestatic 42, 3) := by decide +kernel
theorem dX6_isSetting_26 : decode cX6_isSetting 26 = .ok (.goto 23, 3) := by decide +kernel
theorem dX6_isSetting_29 : decode cX6_isSetting 29 = .ok (.iload_n 0, 1) := by decide +kernel
theorem dX6_isSetting_30 : decode cX6_isSetting 30 = .ok (.iconst 2, 1) := by decide +kernel
theorem dX6_isSetting_31 : decode cX6_isSetting 31 = .ok (.if_icmp .ne 17, 3) := by decide +kernel
theorem dX6_isSetting_34 : decode cX6_isSetting 34 = .ok (.iload_n 1, 1) := by decide +kernel
theorem dX6_isSetting_35 : decode cX6_isSetting 35 = .ok (.iconst 0, 1) := by decide +kernel
theorem dX6_isSetting_36 : decode cX6_isSetting 36 = .ok (.bipush 100, 2) := by decide +kernel
theorem dX6_isSetting_38 : decode cX6_isSetting 38 = .ok (.invokestatic 42, 3) := by decide +kernel
theorem dX6_isSetting_41 : decode cX6_isSetting 41 = .ok (.ifCond .eq 7, 3) := by decide +kernel
theorem dX6_isSetting_44 : decode cX6_isSetting 44 = .ok (.iconst 1, 1) := by decide +kernel
theorem dX6_isSetting_45 : decode cX6_isSetting 45 = .ok (.goto 4, 3) := by decide +kernel
theorem dX6_isSetting_48 : decode cX6_isSetting 48 = .ok (.iconst 0, 1) := by decide +kernel
theorem dX6_isSetting_49 : decode cX6_isSetting 49 = .ok (.ireturn, 1) := by decide +kernel
theorem dX6_set_0 : decode cX6_set 0 = .ok (.iload_n 1, 1) := by decide +kernel
theorem dX6_set_1 : decode cX6_set 1 = .ok (.iload_n 2, 1) := by decide +kernel
theorem dX6_set_2 : decode cX6_set 2 = .ok (.invokestatic 73, 3) := by decide +kernel
theorem dX6_set_5 : decode cX6_set 5 = .ok (.ifCond .ne 6, 3) := by decide +kernel
theorem dX6_set_8 : decode cX6_set 8 = .ok (.ldc 77, 2) := by decide +kernel
theorem dX6_set_10 : decode cX6_set 10 = .ok (.ireturn, 1) := by decide +kernel
theorem dX6_set_11 : decode cX6_set 11 = .ok (.aload_n 0, 1) := by decide +kernel
theorem dX6_set_12 : decode cX6_set 12 = .ok (.invokevirtual 78, 3) := by decide +kernel
theorem dX6_set_15 : decode cX6_set 15 = .ok (.aload_n 0, 1) := by decide +kernel
theorem dX6_set_16 : decode cX6_set 16 = .ok (.getfield 7, 3) := by decide +kernel
theorem dX6_set_19 : decode cX6_set 19 = .ok (.iconst 0, 1) := by decide +kernel
theorem dX6_set_20 : decode cX6_set 20 = .ok (.iload_n 1, 1) := by decide +kernel
theorem dX6_set_21 : decode cX6_set 21 = .ok (.iadd, 1) := by decide +kernel
theorem dX6_set_22 : decode cX6_set 22 = .ok (.iaload, 1) := by decide +kernel
theorem dX6_set_23 : decode cX6_set 23 = .ok (.istore_n 3, 1) := by decide +kernel
theorem dX6_set_24 : decode cX6_set 24 = .ok (.aload_n 0, 1) := by decide +kernel
theorem dX6_set_25 : decode cX6_set 25 = .ok (.getfield 7, 3) := by decide +kernel
theorem dX6_set_28 : decode cX6_set 28 = .ok (.iconst 0, 1) := by decide +kernel
theorem dX6_set_29 : decode cX6_set 29 = .ok (.iload_n 1, 1) := by decide +kernel
theorem dX6_set_30 : decode cX6_set 30 = .ok (.iadd, 1) := by decide +kernel
theorem dX6_set_31 : decode cX6_set 31 = .ok (.iload_n 2, 1) := by decide +kernel
theorem dX6_set_32 : decode cX6_set 32 = .ok (.iastore, 1) := by decide +kernel
theorem dX6_set_33 : decode cX6_set 33 = .ok (.iload_n 3, 1) := by decide +kernel
theorem dX6_set_34 : decode cX6_set 34 = .ok (.ireturn, 1) := by decide +kernel
theorem dX6_oracle_0 : decode cX6_oracle 0 = .ok (.iload_n 1, 1) := by decide +kernel
theorem dX6_oracle_1 : decode cX6_oracle 1 = .ok (.ifCond .ne 7, 3) := by decide +kernel
theorem dX6_oracle_4 : decode cX6_oracle 4 = .ok (.iconst 1, 1) := by decide +kernel
theorem dX6_oracle_5 : decode cX6_oracle 5 = .ok (.goto 13, 3) := by decide +kernel
theorem dX6_oracle_8 : decode cX6_oracle 8 = .ok (.iload_n 1, 1) := by decide +kernel
theorem dX6_oracle_9 : decode cX6_oracle 9 = .ok (.iconst 4, 1) := by decide +kernel
theorem dX6_oracle_10 : decode cX6_oracle 10 = .ok (.if_icmp .ne 7, 3) := by decide +kernel
theorem dX6_oracle_13 : decode cX6_oracle 13 = .ok (.iconst 0, 1) := by decide +kernel
theorem dX6_oracle_14 : decode cX6_oracle 14 = .ok (.goto 4, 3) := by decide +kernel
theorem dX6_oracle_17 : decode cX6_oracle 17 = .ok (.iconst 5, 1) := by decide +kernel
theorem dX6_oracle_18 : decode cX6_oracle 18 = .ok (.istore 4, 2) := by decide +kernel
theorem dX6_oracle_20 : decode cX6_oracle 20 = .ok (.iload_n 1, 1) := by decide +kernel
theorem dX6_oracle_21 : decode cX6_oracle 21 = .ok (.iconst 0, 1) := by decide +kernel
theorem dX6_oracle_22 : decode cX6_oracle 22 = .ok (.iconst 4, 1) := by decide +kernel
theorem dX6_oracle_23 : decode cX6_oracle 23 = .ok (.invokestatic 42, 3) := by decide +kernel
theorem dX6_oracle_26 : decode cX6_oracle 26 = .ok (.ifCond .eq 24, 3) := by decide +kernel
theorem dX6_oracle_29 : decode cX6_oracle 29 = .ok (.iload_n 2, 1) := by decide +kernel
theorem dX6_oracle_30 : decode cX6_oracle 30 = .ok (.iconst 0, 1) := by decide +kernel
theorem dX6_oracle_31 : decode cX6_oracle 31 = .ok (.iload 4, 2) := by decide +kernel
theorem dX6_oracle_33 : decode cX6_oracle 33 = .ok (.invokestatic 42, 3) := by decide +kernel
theorem dX6_oracle_36 : decode cX6_oracle 36 = .ok (.ifCond .eq 14, 3) := by decide +kernel
theorem dX6_oracle_39 : decode cX6_oracle 39 = .ok (.iload_n 3, 1) := by decide +kernel
theorem dX6_oracle_40 : decode cX6_oracle 40 = .ok (.iconst 0, 1) := by decide +kernel
theorem dX6_oracle_41 : decode cX6_oracle 41 = .ok (.sipush 9999, 3) := by decide +kernel
theorem dX6_oracle_44 : decode cX6_oracle 44 = .ok (.invokestatic 42, 3) := by decide +kernel
theorem dX6_oracle_47 : decode cX6_oracle 47 = .ok (.ifCond .ne 6, 3) := by decide +kernel
theorem dX6_oracle_50 : decode cX6_oracle 50 = .ok (.ldc 77, 2) := by decide +kernel
theorem dX6_oracle_52 : decode cX6_oracle 52 = .ok (.ireturn, 1) := by decide +kernel
theorem dX6_oracle_53 : decode cX6_oracle 53 = .ok (.aload_n 0, 1) := by decide +kernel
theorem dX6_oracle_54 : decode cX6_oracle 54 = .ok (.getfield 7, 3) := by decide +kernel
theorem dX6_oracle_57 : decode cX6_oracle 57 = .ok (.bipush 7, 2) := by decide +kernel
theorem dX6_oracle_59 : decode cX6_oracle 59 = .ok (.iaload, 1) := by decide +kernel
theorem dX6_oracle_60 : decode cX6_oracle 60 = .ok (.bipush 6, 2) := by decide +kernel
theorem dX6_oracle_62 : decode cX6_oracle 62 = .ok (.if_icmp .ne 6, 3) := by decide +kernel
theorem dX6_oracle_65 : decode cX6_oracle 65 = .ok (.ldc 81, 2) := by decide +kernel
theorem dX6_oracle_67 : decode cX6_oracle 67 = .ok (.ireturn, 1) := by decide +kernel
theorem dX6_oracle_68 : decode cX6_oracle 68 = .ok (.aload_n 0, 1) := by decide +kernel
theorem dX6_oracle_69 : decode cX6_oracle 69 = .ok (.invokevirtual 78, 3) := by decide +kernel
theorem dX6_oracle_72 : decode cX6_oracle 72 = .ok (.aload_n 0, 1) := by decide +kernel
theorem dX6_oracle_73 : decode cX6_oracle 73 = .ok (.getfield 7, 3) := by decide +kernel
theorem dX6_oracle_76 : decode cX6_oracle 76 = .ok (.bipush 7, 2) := by decide +kernel
theorem dX6_oracle_78 : decode cX6_oracle 78 = .ok (.iaload, 1) := by decide +kernel
theorem dX6_oracle_79 : decode cX6_oracle 79 = .ok (.istore 5, 2) := by decide +kernel
theorem dX6_oracle_81 : decode cX6_oracle 81 = .ok (.iconst 0, 1) := by decide +kernel
theorem dX6_oracle_82 : decode cX6_oracle 82 = .ok (.istore 6, 2) := by decide +kernel
theorem dX6_oracle_84 : decode cX6_oracle 84 = .ok (.iload 6, 2) := by decide +kernel
theorem dX6_oracle_86 : decode cX6_oracle 86 = .ok (.bipush 42, 2) := by decide +kernel
theorem dX6_oracle_88 : decode cX6_oracle 88 = .ok (.if_icmp .ge 29, 3) := by decide +kernel
theorem dX6_oracle_91 : decode cX6_oracle 91 = .ok (.aload_n 0, 1) := by decide +kernel
theorem dX6_oracle_92 : decode cX6_oracle 92 = .ok (.iload 5, 2) := by decide +kernel
theorem dX6_oracle_94 : decode cX6_oracle 94 = .ok (.iload 6, 2) := by decide +kernel
theorem dX6_oracle_96 : decode cX6_oracle 96 = .ok (.iload 6, 2) := by decide +kernel
theorem dX6_oracle_98 : decode cX6_oracle 98 = .ok (.bipush 10, 2) := by decide +kernel
theorem dX6_oracle_100 : decode cX6_oracle 100 = .ok (.if_icmp .lt 7, 3) := by decide +kernel
theorem dX6_oracle_103 : decode cX6_oracle 103 = .ok (.iconst 1, 1) := by decide +kernel
theorem dX6_oracle_104 : decode cX6_oracle 104 = .ok (.goto 4, 3) := by decide +kernel
theorem dX6_oracle_107 : decode cX6_oracle 107 = .ok (.iconst 0, 1) := by decide +kernel
theorem dX6_oracle_108 : decode cX6_oracle 108 = .ok (.invokevirtual 82, 3) := by decide +kernel
theorem dX6_oracle_111 : decode cX6_oracle 111 = .ok (.iinc 6 1, 3) := by decide +kernel
theorem dX6_oracle_114 : decode cX6_oracle 114 = .ok (.goto (-30), 3) := by decide +kernel
theorem dX6_oracle_117 : decode cX6_oracle 117 = .ok (.aload_n 0, 1) := by decide +kernel
theorem dX6_oracle_118 : decode cX6_oracle 118 = .ok (.iload 5, 2) := by decide +kernel
theorem dX6_oracle_120 : decode cX6_oracle 120 = .ok (.iconst 0, 1) := by decide +kernel
theorem dX6_oracle_121 : decode cX6_oracle 121 = .ok (.iload_n 1, 1) := by decide +kernel
theorem dX6_oracle_122 : decode cX6_oracle 122 = .ok (.invokevirtual 82, 3) := by decide +kernel
theorem dX6_oracle_125 : decode cX6_oracle 125 = .ok (.aload_n 0, 1) := by decide +kernel
theorem dX6_oracle_126 : decode cX6_oracle 126 = .ok (.iload 5, 2) := by decide +kernel
theorem dX6_oracle_128 : decode cX6_oracle 128 = .ok (.iconst 1, 1) := by decide +kernel
theorem dX6_oracle_129 : decode cX6_oracle 129 = .ok (.iload_n 2, 1) := by decide +kernel
theorem dX6_oracle_130 : decode cX6_oracle 130 = .ok (.invokevirtual 82, 3) := by decide +kernel
theorem dX6_oracle_133 : decode cX6_oracle 133 = .ok (.aload_n 0, 1) := by decide +kernel
theorem dX6_oracle_134 : decode cX6_oracle 134 = .ok (.iload 5, 2) := by decide +kernel
theorem dX6_oracle_136 : decode cX6_oracle 136 = .ok (.iconst 2, 1) := by decide +kernel
theorem dX6_oracle_137 : decode cX6_oracle 137 = .ok (.iload_n 3, 1) := by decide +kernel
theorem dX6_oracle_138 : decode cX6_oracle 138 = .ok (.invokevirtual 82, 3) := by decide +kernel
theorem dX6_oracle_141 : decode cX6_oracle 141 = .ok (.aload_n 0, 1) := by decide +kernel
theorem dX6_oracle_142 : decode cX6_oracle 142 = .ok (.iload 5, 2) := by decide +kernel
theorem dX6_oracle_144 : decode cX6_oracle 144 = .ok (.iconst 3, 1) := by decide +kernel
theorem dX6_oracle_145 : decode cX6_oracle 145 = .ok (.iconst (-1), 1) := by decide +kernel
theorem dX6_oracle_146 : decode cX6_oracle 146 = .ok (.invokevirtual 82, 3) := by decide +kernel
theorem dX6_oracle_149 : decode cX6_oracle 149 = .ok (.aload_n 0, 1) := by decide +kernel
theorem dX6_oracle_150 : decode cX6_oracle 150 = .ok (.getfield 7, 3) := by decide +kernel
theorem dX6_oracle_153 : decode cX6_oracle 153 = .ok (.bipush 7, 2) := by decide +kernel
theorem dX6_oracle_155 : decode cX6_oracle 155 = .ok (.dup2, 1) := by decide +kernel
theorem dX6_oracle_156 : decode cX6_oracle 156 = .ok (.iaload, 1) := by decide +kernel
theorem dX6_oracle_157 : decode cX6_oracle 157 = .ok (.iconst 1, 1) := by decide +kernel
theorem dX6_oracle_158 : decode cX6_oracle 158 = .ok (.iadd, 1) := by decide +kernel
theorem dX6_oracle_159 : decode cX6_oracle 159 = .ok (.iastore, 1) := by decide +kernel
theorem dX6_oracle_160 : decode cX6_oracle 160 = .ok (.iload 5, 2) := by decide +kernel
theorem dX6_oracle_162 : decode cX6_oracle 162 = .ok (.ireturn, 1) := by decide +kernel
theorem dX6_sitting_0 : decode cX6_sitting 0 = .ok (.iconst 0, 1) := by decide +kernel
theorem dX6_sitting_1 : decode cX6_sitting 1 = .ok (.istore_n 2, 1) := by decide +kernel
theorem dX6_sitting_2 : decode cX6_sitting 2 = .ok (.iconst 0, 1) := by decide +kernel
theorem dX6_sitting_3 : decode cX6_sitting 3 = .ok (.istore_n 3, 1) := by decide +kernel
theorem dX6_sitting_4 : decode cX6_sitting 4 = .ok (.iload_n 3, 1) := by decide +kernel
theorem dX6_sitting_5 : decode cX6_sitting 5 = .ok (.aload_n 0, 1) := by decide +kernel
theorem dX6_sitting_6 : decode cX6_sitting 6 = .ok (.getfield 7, 3) := by decide +kernel
theorem dX6_sitting_9 : decode cX6_sitting 9 = .ok (.bipush 7, 2) := by decide +kernel
theorem dX6_sitting_11 : decode cX6_sitting 11 = .ok (.iaload, 1) := by decide +kernel
theorem dX6_sitting_12 : decode cX6_sitting 12 = .ok (.if_icmp .ge 27, 3) := by decide +kernel
theorem dX6_sitting_15 : decode cX6_sitting 15 = .ok (.iload_n 2, 1) := by decide +kernel
theorem dX6_sitting_16 : decode cX6_sitting 16 = .ok (.aload_n 0, 1) := by decide +kernel
theorem dX6_sitting_17 : decode cX6_sitting 17 = .ok (.iload_n 3, 1) := by decide +kernel
theorem dX6_sitting_18 : decode cX6_sitting 18 = .ok (.iconst 3, 1) := by decide +kernel
theorem dX6_sitting_19 : decode cX6_sitting 19 = .ok (.invokevirtual 46, 3) := by decide +kernel
theorem dX6_sitting_22 : decode cX6_sitting 22 = .ok (.iload_n 1, 1) := by decide +kernel
theorem dX6_sitting_23 : decode cX6_sitting 23 = .ok (.if_icmp .ne 7, 3) := by decide +kernel
theorem dX6_sitting_26 : decode cX6_sitting 26 = .ok (.iconst 1, 1) := by decide +kernel
theorem dX6_sitting_27 : decode cX6_sitting 27 = .ok (.goto 4, 3) := by decide +kernel
theorem dX6_sitting_30 : decode cX6_sitting 30 = .ok (.iconst 0, 1) := by decide +kernel
theorem dX6_sitting_31 : decode cX6_sitting 31 = .ok (.iadd, 1) := by decide +kernel
theorem dX6_sitting_32 : decode cX6_sitting 32 = .ok (.istore_n 2, 1) := by decide +kernel
theorem dX6_sitting_33 : decode cX6_sitting 33 = .ok (.iinc 3 1, 3) := by decide +kernel
theorem dX6_sitting_36 : decode cX6_sitting 36 = .ok (.goto (-32), 3) := by decide +kernel
theorem dX6_sitting_39 : decode cX6_sitting 39 = .ok (.iload_n 2, 1) := by decide +kernel
theorem dX6_sitting_40 : decode cX6_sitting 40 = .ok (.ireturn, 1) := by decide +kernel
theorem dX6_seat_0 : decode cX6_seat 0 = .ok (.aload_n 0, 1) := by decide +kernel
theorem dX6_seat_1 : decode cX6_seat 1 = .ok (.iload_n 1, 1) := by decide +kernel
theorem dX6_seat_2 : decode cX6_seat 2 = .ok (.invokevirtual 86, 3) := by decide +kernel
theorem dX6_seat_5 : decode cX6_seat 5 = .ok (.ifCond .eq 12, 3) := by decide +kernel
theorem dX6_seat_8 : decode cX6_seat 8 = .ok (.iload_n 2, 1) := by decide +kernel
theorem dX6_seat_9 : decode cX6_seat 9 = .ok (.iconst 0, 1) := by decide +kernel
theorem dX6_seat_10 : decode cX6_seat 10 = .ok (.iconst 2, 1) := by decide +kernel
theorem dX6_seat_11 : decode cX6_seat 11 = .ok (.invokestatic 42, 3) := by decide +kernel
theorem dX6_seat_14 : decode cX6_seat 14 = .ok (.ifCond .ne 6, 3) := by decide +kernel
theorem dX6_seat_17 : decode cX6_seat 17 = .ok (.ldc 77, 2) := by decide +kernel
theorem dX6_seat_19 : decode cX6_seat 19 = .ok (.ireturn, 1) := by decide +kernel
theorem dX6_seat_20 : decode cX6_seat 20 = .ok (.iload_n 2, 1) := by decide +kernel
theorem dX6_seat_21 : decode cX6_seat 21 = .ok (.iconst 2, 1) := by decide +kernel
theorem dX6_seat_22 : decode cX6_seat 22 = .ok (.if_icmp .eq 27, 3) := by decide +kernel
theorem dX6_seat_25 : decode cX6_seat 25 = .ok (.iload_n 2, 1) := by decide +kernel
theorem dX6_seat_26 : decode cX6_seat 26 = .ok (.ifCond .ne 15, 3) := by decide +kernel
theorem dX6_seat_29 : decode cX6_seat 29 = .ok (.aload_n 0, 1) := by decide +kernel
theorem dX6_seat_30 : decode cX6_seat 30 = .ok (.iload_n 1, 1) := by decide +kernel
theorem dX6_seat_31 : decode cX6_seat 31 = .ok (.iconst 0, 1) := by decide +kernel
theorem dX6_seat_32 : decode cX6_seat 32 = .ok (.invokevirtual 46, 3) := by decide +kernel
theorem dX6_seat_35 : decode cX6_seat 35 = .ok (.ifCond .ne 18, 3) := by decide +kernel
theorem dX6_seat_38 : decode cX6_seat 38 = .ok (.goto 11, 3) := by decide +kernel
theorem dX6_seat_41 : decode cX6_seat 41 = .ok (.aload_n 0, 1) := by decide +kernel
theorem dX6_seat_42 : decode cX6_seat 42 = .ok (.iload_n 1, 1) := by decide +kernel
theorem dX6_seat_43 : decode cX6_seat 43 = .ok (.invokevirtual 50, 3) := by decide +kernel
theorem dX6_seat_46 : decode cX6_seat 46 = .ok (.ifCond .eq 7, 3) := by decide +kernel
theorem dX6_seat_49 : decode cX6_seat 49 = .ok (.iconst 1, 1) := by decide +kernel
theorem dX6_seat_50 : decode cX6_seat 50 = .ok (.goto 4, 3) := by decide +kernel
theorem dX6_seat_53 : decode cX6_seat 53 = .ok (.iconst 0, 1) := by decide +kernel
theorem dX6_seat_54 : decode cX6_seat 54 = .ok (.istore_n 3, 1) := by decide +kernel
theorem dX6_seat_55 : decode cX6_seat 55 = .ok (.aload_n 0, 1) := by decide +kernel
theorem dX6_seat_56 : decode cX6_seat 56 = .ok (.iload_n 1, 1) := by decide +kernel
theorem dX6_seat_57 : decode cX6_seat 57 = .ok (.invokevirtual 61, 3) := by decide +kernel
theorem dX6_seat_60 : decode cX6_seat 60 = .ok (.ifCond .ne 7, 3) := by decide +kernel
theorem dX6_seat_63 : decode cX6_seat 63 = .ok (.iload_n 3, 1) := by decide +kernel
theorem dX6_seat_64 : decode cX6_seat 64 = .ok (.ifCond .ne 6, 3) := by decide +kernel
theorem dX6_seat_67 : decode cX6_seat 67 = .ok (.ldc 89, 2) := by decide +kernel
theorem dX6_seat_69 : decode cX6_seat 69 = .ok (.ireturn, 1) := by decide +kernel
theorem dX6_seat_70 : decode cX6_seat 70 = .ok (.aload_n 0, 1) := by decide +kernel
theorem dX6_seat_71 : decode cX6_seat 71 = .ok (.iload_n 2, 1) := by decide +kernel
theorem dX6_seat_72 : decode cX6_seat 72 = .ok (.invokevirtual 90, 3) := by decide +kernel
theorem dX6_seat_75 : decode cX6_seat 75 = .ok (.iconst 2, 1) := by decide +kernel
theorem dX6_seat_76 : decode cX6_seat 76 = .ok (.if_icmp .ne 6, 3) := by decide +kernel
theorem dX6_seat_79 : decode cX6_seat 79 = .ok (.ldc 81, 2) := by decide +kernel
theorem dX6_seat_81 : decode cX6_seat 81 = .ok (.ireturn, 1) := by decide +kernel
theorem dX6_seat_82 : decode cX6_seat 82 = .ok (.aload_n 0, 1) := by decide +kernel
theorem dX6_seat_83 : decode cX6_seat 83 = .ok (.invokevirtual 78, 3) := by decide +kernel
theorem dX6_seat_86 : decode cX6_seat 86 = .ok (.iconst 0, 1) := by decide +kernel
theorem dX6_seat_87 : decode cX6_seat 87 = .ok (.istore 4, 2) := by decide +kernel
theorem dX6_seat_89 : decode cX6_seat 89 = .ok (.iconst 0, 1) := by decide +kernel
theorem dX6_seat_90 : decode cX6_seat 90 = .ok (.istore 5, 2) := by decide +kernel
theorem dX6_seat_92 : decode cX6_seat 92 = .ok (.iload 5, 2) := by decide +kernel
theorem dX6_seat_94 : decode cX6_seat 94 = .ok (.aload_n 0, 1) := by decide +kernel
theorem dX6_seat_95 : decode cX6_seat 95 = .ok (.getfield 7, 3) := by decide +kernel
theorem dX6_seat_98 : decode cX6_seat 98 = .ok (.bipush 7, 2) := by decide +kernel
theorem dX6_seat_100 : decode cX6_seat 100 = .ok (.iaload, 1) := by decide +kernel
theorem dX6_seat_101 : decode cX6_seat 101 = .ok (.if_icmp .ge 38, 3) := by decide +kernel
theorem dX6_seat_104 : decode cX6_seat 104 = .ok (.aload_n 0, 1) := by decide +kernel
theorem dX6_seat_105 : decode cX6_seat 105 = .ok (.iload 5, 2) := by decide +kernel
theorem dX6_seat_107 : decode cX6_seat 107 = .ok (.iconst 3, 1) := by decide +kernel
theorem dX6_seat_108 : decode cX6_seat 108 = .ok (.invokevirtual 46, 3) := by decide +kernel
theorem dX6_seat_111 : decode cX6_seat 111 = .ok (.iload_n 2, 1) := by decide +kernel
theorem dX6_seat_112 : decode cX6_seat 112 = .ok (.if_icmp .ne 17, 3) := by decide +kernel
theorem dX6_seat_115 : decode cX6_seat 115 = .ok (.aload_n 0, 1) := by decide +kernel
theorem dX6_seat_116 : decode cX6_seat 116 = .ok (.iload 5, 2) := by decide +kernel
theorem dX6_seat_118 : decode cX6_seat 118 = .ok (.iconst 4, 1) := by decide +kernel
theorem dX6_seat_119 : decode cX6_seat 119 = .ok (.invokevirtual 46, 3) := by decide +kernel
theorem dX6_seat_122 : decode cX6_seat 122 = .ok (.ifCond .ne 7, 3) := by decide +kernel
theorem dX6_seat_125 : decode cX6_seat 125 = .ok (.iconst 1, 1) := by decide +kernel
theorem dX6_seat_126 : decode cX6_seat 126 = .ok (.goto 5, 3) := by decide +kernel
theorem dX6_seat_129 : decode cX6_seat 129 = .ok (.iload 4, 2) := by decide +kernel
theorem dX6_seat_131 : decode cX6_seat 131 = .ok (.istore 4, 2) := by decide +kernel
theorem dX6_seat_133 : decode cX6_seat 133 = .ok (.iinc 5 1, 3) := by decide +kernel
theorem dX6_seat_136 : decode cX6_seat 136 = .ok (.goto (-44), 3) := by decide +kernel
theorem dX6_seat_139 : decode cX6_seat 139 = .ok (.aload_n 0, 1) := by decide +kernel
theorem dX6_seat_140 : decode cX6_seat 140 = .ok (.iload_n 1, 1) := by decide +kernel
theorem dX6_seat_141 : decode cX6_seat 141 = .ok (.iconst 3, 1) := by decide +kernel
theorem dX6_seat_142 : decode cX6_seat 142 = .ok (.iload_n 2, 1) := by decide +kernel
theorem dX6_seat_143 : decode cX6_seat 143 = .ok (.invokevirtual 82, 3) := by decide +kernel
theorem dX6_seat_146 : decode cX6_seat 146 = .ok (.aload_n 0, 1) := by decide +kernel
theorem dX6_seat_147 : decode cX6_seat 147 = .ok (.iload_n 1, 1) := by decide +kernel
theorem dX6_seat_148 : decode cX6_seat 148 = .ok (.iconst 4, 1) := by decide +kernel
theorem dX6_seat_149 : decode cX6_seat 149 = .ok (.iload 4, 2) := by decide +kernel
theorem dX6_seat_151 : decode cX6_seat 151 = .ok (.invokevirtual 82, 3) := by decide +kernel
theorem dX6_seat_154 : decode cX6_seat 154 = .ok (.aload_n 0, 1) := by decide +kernel
theorem dX6_seat_155 : decode cX6_seat 155 = .ok (.iload_n 2, 1) := by decide +kernel
theorem dX6_seat_156 : decode cX6_seat 156 = .ok (.invokevirtual 90, 3) := by decide +kernel
theorem dX6_seat_159 : decode cX6_seat 159 = .ok (.ireturn, 1) := by decide +kernel
theorem dX6_stand_0 : decode cX6_stand 0 = .ok (.aload_n 0, 1) := by decide +kernel
theorem dX6_stand_1 : decode cX6_stand 1 = .ok (.iload_n 1, 1) := by decide +kernel
theorem dX6_stand_2 : decode cX6_stand 2 = .ok (.invokevirtual 86, 3) := by decide +kernel
theorem dX6_stand_5 : decode cX6_stand 5 = .ok (.ifCond .ne 6, 3) := by decide +kernel
theorem dX6_stand_8 : decode cX6_stand 8 = .ok (.ldc 77, 2) := by decide +kernel
theorem dX6_stand_10 : decode cX6_stand 10 = .ok (.ireturn, 1) := by decide +kernel
theorem dX6_stand_11 : decode cX6_stand 11 = .ok (.aload_n 0, 1) := by decide +kernel
theorem dX6_stand_12 : decode cX6_stand 12 = .ok (.iload_n 1, 1) := by decide +kernel
theorem dX6_stand_13 : decode cX6_stand 13 = .ok (.invokevirtual 61, 3) := by decide +kernel
theorem dX6_stand_16 : decode cX6_stand 16 = .ok (.ifCond .ne 6, 3) := by decide +kernel
theorem dX6_stand_19 : decode cX6_stand 19 = .ok (.ldc 89, 2) := by decide +kernel
theorem dX6_stand_21 : decode cX6_stand 21 = .ok (.ireturn, 1) := by decide +kernel
theorem dX6_stand_22 : decode cX6_stand 22 = .ok (.aload_n 0, 1) := by decide +kernel
theorem dX6_stand_23 : decode cX6_stand 23 = .ok (.invokevirtual 78, 3) := by decide +kernel
theorem dX6_stand_26 : decode cX6_stand 26 = .ok (.aload_n 0, 1) := by decide +kernel
theorem dX6_stand_27 : decode cX6_stand 27 = .ok (.iload_n 1, 1) := by decide +kernel
theorem dX6_stand_28 : decode cX6_stand 28 = .ok (.iconst 3, 1) := by decide +kernel
theorem dX6_stand_29 : decode cX6_stand 29 = .ok (.invokevirtual 46, 3) := by decide +kernel
theorem dX6_stand_32 : decode cX6_stand 32 = .ok (.istore_n 2, 1) := by decide +kernel
theorem dX6_stand_33 : decode cX6_stand 33 = .ok (.aload_n 0, 1) := by decide +kernel
theorem dX6_stand_34 : decode cX6_stand 34 = .ok (.iload_n 1, 1) := by decide +kernel
theorem dX6_stand_35 : decode cX6_stand 35 = .ok (.iconst 3, 1) := by decide +kernel
theorem dX6_stand_36 : decode cX6_stand 36 = .ok (.iconst (-1), 1) := by decide +kernel
theorem dX6_stand_37 : decode cX6_stand 37 = .ok (.invokevirtual 82, 3) := by decide +kernel
theorem dX6_stand_40 : decode cX6_stand 40 = .ok (.iload_n 2, 1) := by decide +kernel
theorem dX6_stand_41 : decode cX6_stand 41 = .ok (.ireturn, 1) := by decide +kernel
theorem dX6_give_0 : decode cX6_give 0 = .ok (.aload_n 0, 1) := by decide +kernel
theorem dX6_give_1 : decode cX6_give 1 = .ok (.iload_n 1, 1) := by decide +kernel
theorem dX6_give_2 : decode cX6_give 2 = .ok (.invokevirtual 86, 3) := by decide +kernel
theorem dX6_give_5 : decode cX6_give 5 = .ok (.ifCond .eq 14, 3) := by decide +kernel
theorem dX6_give_8 : decode cX6_give 8 = .ok (.iload_n 2, 1) := by decide +kernel
theorem dX6_give_9 : decode cX6_give 9 = .ok (.iconst 1, 1) := by decide +kernel
theorem dX6_give_10 : decode cX6_give 10 = .ok (.sipush 9999, 3) := by decide +kernel
theorem dX6_give_13 : decode cX6_give 13 = .ok (.invokestatic 42, 3) := by decide +kernel
theorem dX6_give_16 : decode cX6_give 16 = .ok (.ifCond .ne 6, 3) := by decide +kernel
theorem dX6_give_19 : decode cX6_give 19 = .ok (.ldc 77, 2) := by decide +kernel
theorem dX6_give_21 : decode cX6_give 21 = .ok (.ireturn, 1) := by decide +kernel
theorem dX6_give_22 : decode cX6_give 22 = .ok (.aload_n 0, 1) := by decide +kernel
theorem dX6_give_23 : decode cX6_give 23 = .ok (.iload_n 1, 1) := by decide +kernel
theorem dX6_give_24 : decode cX6_give 24 = .ok (.iconst 2, 1) := by decide +kernel
theorem dX6_give_25 : decode cX6_give 25 = .ok (.invokevirtual 46, 3) := by decide +kernel
theorem dX6_give_28 : decode cX6_give 28 = .ok (.iload_n 2, 1) := by decide +kernel
theorem dX6_give_29 : decode cX6_give 29 = .ok (.iadd, 1) := by decide +kernel
theorem dX6_give_30 : decode cX6_give 30 = .ok (.ldc 93, 2) := by decide +kernel
theorem dX6_give_32 : decode cX6_give 32 = .ok (.if_icmp .le 6, 3) := by decide +kernel
theorem dX6_give_35 : decode cX6_give 35 = .ok (.ldc 81, 2) := by decide +kernel
theorem dX6_give_37 : decode cX6_give 37 = .ok (.ireturn, 1) := by decide +kernel
theorem dX6_give_38 : decode cX6_give 38 = .ok (.aload_n 0, 1) := by decide +kernel
theorem dX6_give_39 : decode cX6_give 39 = .ok (.invokevirtual 78, 3) := by decide +kernel
theorem dX6_give_42 : decode cX6_give 42 = .ok (.aload_n 0, 1) := by decide +kernel
theorem dX6_give_43 : decode cX6_give 43 = .ok (.iload_n 1, 1) := by decide +kernel
theorem dX6_give_44 : decode cX6_give 44 = .ok (.iconst 2, 1) := by decide +kernel
theorem dX6_give_45 : decode cX6_give 45 = .ok (.iload_n 2, 1) := by decide +kernel
theorem dX6_give_46 : decode cX6_give 46 = .ok (.invokevirtual 94, 3) := by decide +kernel
theorem dX6_give_49 : decode cX6_give 49 = .ok (.aload_n 0, 1) := by decide +kernel
theorem dX6_give_50 : decode cX6_give 50 = .ok (.iload_n 1, 1) := by decide +kernel
theorem dX6_give_51 : decode cX6_give 51 = .ok (.iconst 2, 1) := by decide +kernel
theorem dX6_give_52 : decode cX6_give 52 = .ok (.invokevirtual 46, 3) := by decide +kernel
theorem dX6_give_55 : decode cX6_give 55 = .ok (.ireturn, 1) := by decide +kernel
theorem dX6_lend_0 : decode cX6_lend 0 = .ok (.aload_n 0, 1) := by decide +kernel
theorem dX6_lend_1 : decode cX6_lend 1 = .ok (.iload_n 1, 1) := by decide +kernel
theorem dX6_lend_2 : decode cX6_lend 2 = .ok (.invokevirtual 86, 3) := by decide +kernel
theorem dX6_lend_5 : decode cX6_lend 5 = .ok (.ifCond .eq 27, 3) := by decide +kernel
theorem dX6_lend_8 : decode cX6_lend 8 = .ok (.aload_n 0, 1) := by decide +kernel
theorem dX6_lend_9 : decode cX6_lend 9 = .ok (.iload_n 2, 1) := by decide +kernel
theorem dX6_lend_10 : decode cX6_lend 10 = .ok (.invokevirtual 86, 3) := by decide +kernel
theorem dX6_lend_13 : decode cX6_lend 13 = .ok (.ifCond .eq 19, 3) := by decide +kernel
theorem dX6_lend_16 : decode cX6_lend 16 = .ok (.iload_n 1, 1) := by decide +kernel
theorem dX6_lend_17 : decode cX6_lend 17 = .ok (.iload_n 2, 1) := by decide +kernel
theorem dX6_lend_18 : decode cX6_lend 18 = .ok (.if_icmp .eq 14, 3) := by decide +kernel
theorem dX6_lend_21 : decode cX6_lend 21 = .ok (.iload_n 3, 1) := by decide +kernel
theorem dX6_lend_22 : decode cX6_lend 22 = .ok (.iconst 1, 1) := by decide +kernel
theorem dX6_lend_23 : decode cX6_lend 23 = .ok (.sipush 9999, 3) := by decide +kernel
theorem dX6_lend_26 : decode cX6_lend 26 = .ok (.invokestatic 42, 3) := by decide +kernel
theorem dX6_lend_29 : decode cX6_lend 29 = .ok (.ifCond .ne 6, 3) := by decide +kernel
theorem dX6_lend_32 : decode cX6_lend 32 = .ok (.ldc 77, 2) := by decide +kernel
theorem dX6_lend_34 : decode cX6_lend 34 = .ok (.ireturn, 1) := by decide +kernel
theorem dX6_lend_35 : decode cX6_lend 35 = .ok (.aload_n 0, 1) := by decide +kernel
theorem dX6_lend_36 : decode cX6_lend 36 = .ok (.iload_n 1, 1) := by decide +kernel
theorem dX6_lend_37 : decode cX6_lend 37 = .ok (.iconst 2, 1) := by decide +kernel
theorem dX6_lend_38 : decode cX6_lend 38 = .ok (.invokevirtual 46, 3) := by decide +kernel
theorem dX6_lend_41 : decode cX6_lend 41 = .ok (.iload_n 3, 1) := by decide +kernel
theorem dX6_lend_42 : decode cX6_lend 42 = .ok (.if_icmp .ge 6, 3) := by decide +kernel
theorem dX6_lend_45 : decode cX6_lend 45 = .ok (.ldc 89, 2) := by decide +kernel
theorem dX6_lend_47 : decode cX6_lend 47 = .ok (.ireturn, 1) := by decide +kernel
theorem dX6_lend_48 : decode cX6_lend 48 = .ok (.aload_n 0, 1) := by decide +kernel
theorem dX6_lend_49 : decode cX6_lend 49 = .ok (.getfield 7, 3) := by decide +kernel
theorem dX6_lend_52 : decode cX6_lend 52 = .ok (.bipush 8, 2) := by decide +kernel
theorem dX6_lend_54 : decode cX6_lend 54 = .ok (.iaload, 1) := by decide +kernel
theorem dX6_lend_55 : decode cX6_lend 55 = .ok (.bipush 8, 2) := by decide +kernel
theorem dX6_lend_57 : decode cX6_lend 57 = .ok (.if_icmp .ne 6, 3) := by decide +kernel
theorem dX6_lend_60 : decode cX6_lend 60 = .ok (.ldc 81, 2) := by decide +kernel
theorem dX6_lend_62 : decode cX6_lend 62 = .ok (.ireturn, 1) := by decide +kernel
theorem dX6_lend_63 : decode cX6_lend 63 = .ok (.aload_n 0, 1) := by decide +kernel
theorem dX6_lend_64 : decode cX6_lend 64 = .ok (.invokevirtual 78, 3) := by decide +kernel
theorem dX6_lend_67 : decode cX6_lend 67 = .ok (.aload_n 0, 1) := by decide +kernel
theorem dX6_lend_68 : decode cX6_lend 68 = .ok (.getfield 7, 3) := by decide +kernel
theorem dX6_lend_71 : decode cX6_lend 71 = .ok (.bipush 8, 2) := by decide +kernel
theorem dX6_lend_73 : decode cX6_lend 73 = .ok (.iaload, 1) := by decide +kernel
theorem dX6_lend_74 : decode cX6_lend 74 = .ok (.istore 4, 2) := by decide +kernel
theorem dX6_lend_76 : decode cX6_lend 76 = .ok (.aload_n 0, 1) := by decide +kernel
theorem dX6_lend_77 : decode cX6_lend 77 = .ok (.getfield 7, 3) := by decide +kernel
theorem dX6_lend_80 : decode cX6_lend 80 = .ok (.sipush 325, 3) := by decide +kernel
theorem dX6_lend_83 : decode cX6_lend 83 = .ok (.iconst 3, 1) := by decide +kernel
theorem dX6_lend_84 : decode cX6_lend 84 = .ok (.iload 4, 2) := by decide +kernel
theorem dX6_lend_86 : decode cX6_lend 86 = .ok (.imul, 1) := by decide +kernel
theorem dX6_lend_87 : decode cX6_lend 87 = .ok (.iadd, 1) := by decide +kernel
theorem dX6_lend_88 : decode cX6_lend 88 = .ok (.iconst 0, 1) := by decide +kernel
theorem dX6_lend_89 : decode cX6_lend 89 = .ok (.iadd, 1) := by decide +kernel
theorem dX6_lend_90 : decode cX6_lend 90 = .ok (.iload_n 1, 1) := by decide +kernel
theorem dX6_lend_91 : decode cX6_lend 91 = .ok (.iastore, 1) := by decide +kernel
theorem dX6_lend_92 : decode cX6_lend 92 = .ok (.aload_n 0, 1) := by decide +kernel
theorem dX6_lend_93 : decode cX6_lend 93 = .ok (.getfield 7, 3) := by decide +kernel
theorem dX6_lend_96 : decode cX6_lend 96 = .ok (.sipush 325, 3) := by decide +kernel
theorem dX6_lend_99 : decode cX6_lend 99 = .ok (.iconst 3, 1) := by decide +kernel
theorem dX6_lend_100 : decode cX6_lend 100 = .ok (.iload 4, 2) := by decide +kernel
theorem dX6_lend_102 : decode cX6_lend 102 = .ok (.imul, 1) := by decide +kernel
theorem dX6_lend_103 : decode cX6_lend 103 = .ok (.iadd, 1) := by decide +kernel
theorem dX6_lend_104 : decode cX6_lend 104 = .ok (.iconst 1, 1) := by decide +kernel
theorem dX6_lend_105 : decode cX6_lend 105 = .ok (.iadd, 1) := by decide +kernel
theorem dX6_lend_106 : decode cX6_lend 106 = .ok (.iload_n 2, 1) := by decide +kernel
theorem dX6_lend_107 : decode cX6_lend 107 = .ok (.iastore, 1) := by decide +kernel
theorem dX6_lend_108 : decode cX6_lend 108 = .ok (.aload_n 0, 1) := by decide +kernel
theorem dX6_lend_109 : decode cX6_lend 109 = .ok (.getfield 7, 3) := by decide +kernel
theorem dX6_lend_112 : decode cX6_lend 112 = .ok (.sipush 325, 3) := by decide +kernel
theorem dX6_lend_115 : decode cX6_lend 115 = .ok (.iconst 3, 1) := by decide +kernel
theorem dX6_lend_116 : decode cX6_lend 116 = .ok (.iload 4, 2) := by decide +kernel
theorem dX6_lend_118 : decode cX6_lend 118 = .ok (.imul, 1) := by decide +kernel
theorem dX6_lend_119 : decode cX6_lend 119 = .ok (.iadd, 1) := by decide +kernel
theorem dX6_lend_120 : decode cX6_lend 120 = .ok (.iconst 2, 1) := by decide +kernel
theorem dX6_lend_121 : decode cX6_lend 121 = .ok (.iadd, 1) := by decide +kernel
theorem dX6_lend_122 : decode cX6_lend 122 = .ok (.iload_n 3, 1) := by decide +kernel
theorem dX6_lend_123 : decode cX6_lend 123 = .ok (.iastore, 1) := by decide +kernel
theorem dX6_lend_124 : decode cX6_lend 124 = .ok (.aload_n 0, 1) := by decide +kernel
theorem dX6_lend_125 : decode cX6_lend 125 = .ok (.getfield 7, 3) := by decide +kernel
theorem dX6_lend_128 : decode cX6_lend 128 = .ok (.bipush 8, 2) := by decide +kernel
theorem dX6_lend_130 : decode cX6_lend 130 = .ok (.dup2, 1) := by decide +kernel
theorem dX6_lend_131 : decode cX6_lend 131 = .ok (.iaload, 1) := by decide +kernel
theorem dX6_lend_132 : decode cX6_lend 132 = .ok (.iconst 1, 1) := by decide +kernel
theorem dX6_lend_133 : decode cX6_lend 133 = .ok (.iadd, 1) := by decide +kernel
theorem dX6_lend_134 : decode cX6_lend 134 = .ok (.iastore, 1) := by decide +kernel
theorem dX6_lend_135 : decode cX6_lend 135 = .ok (.aload_n 0, 1) := by decide +kernel
theorem dX6_lend_136 : decode cX6_lend 136 = .ok (.iload_n 1, 1) := by decide +kernel
theorem dX6_lend_137 : decode cX6_lend 137 = .ok (.iconst 2, 1) := by decide +kernel
theorem dX6_lend_138 : decode cX6_lend 138 = .ok (.iload_n 3, 1) := by decide +kernel
theorem dX6_lend_139 : decode cX6_lend 139 = .ok (.ineg, 1) := by decide +kernel
theorem dX6_lend_140 : decode cX6_lend 140 = .ok (.invokevirtual 94, 3) := by decide +kernel
theorem dX6_lend_143 : decode cX6_lend 143 = .ok (.aload_n 0, 1) := by decide +kernel
theorem dX6_lend_144 : decode cX6_lend 144 = .ok (.iload_n 2, 1) := by decide +kernel
theorem dX6_lend_145 : decode cX6_lend 145 = .ok (.iconst 2, 1) := by decide +kernel
theorem dX6_lend_146 : decode cX6_lend 146 = .ok (.iload_n 3, 1) := by decide +kernel
theorem dX6_lend_147 : decode cX6_lend 147 = .ok (.invokevirtual 94, 3) := by decide +kernel
theorem dX6_lend_150 : decode cX6_lend 150 = .ok (.iload 4, 2) := by decide +kernel
theorem dX6_lend_152 : decode cX6_lend 152 = .ok (.ireturn, 1) := by decide +kernel
theorem dX6_paysBack_0 : decode cX6_paysBack 0 = .ok (.iload_n 2, 1) := by decide +kernel
theorem dX6_paysBack_1 : decode cX6_paysBack 1 = .ok (.aload_n 0, 1) := by decide +kernel
theorem dX6_paysBack_2 : decode cX6_paysBack 2 = .ok (.getfield 7, 3) := by decide +kernel
theorem dX6_paysBack_5 : decode cX6_paysBack 5 = .ok (.iconst 2, 1) := by decide +kernel
theorem dX6_paysBack_6 : decode cX6_paysBack 6 = .ok (.iaload, 1) := by decide +kernel
theorem dX6_paysBack_7 : decode cX6_paysBack 7 = .ok (.imul, 1) := by decide +kernel
theorem dX6_paysBack_8 : decode cX6_paysBack 8 = .ok (.bipush 100, 2) := by decide +kernel
theorem dX6_paysBack_10 : decode cX6_paysBack 10 = .ok (.idiv, 1) := by decide +kernel
theorem dX6_paysBack_11 : decode cX6_paysBack 11 = .ok (.istore_n 3, 1) := by decide +kernel
theorem dX6_paysBack_12 : decode cX6_paysBack 12 = .ok (.iconst 0, 1) := by decide +kernel
theorem dX6_paysBack_13 : decode cX6_paysBack 13 = .ok (.istore 4, 2) := by decide +kernel
theorem dX6_paysBack_15 : decode cX6_paysBack 15 = .ok (.iconst 0, 1) := by decide +kernel
theorem dX6_paysBack_16 : decode cX6_paysBack 16 = .ok (.istore 5, 2) := by decide +kernel
theorem dX6_paysBack_18 : decode cX6_paysBack 18 = .ok (.iload 5, 2) := by decide +kernel
theorem dX6_paysBack_20 : decode cX6_paysBack 20 = .ok (.aload_n 0, 1) := by decide +kernel
theorem dX6_paysBack_21 : decode cX6_paysBack 21 = .ok (.getfield 7, 3) := by decide +kernel
theorem dX6_paysBack_24 : decode cX6_paysBack 24 = .ok (.bipush 8, 2) := by decide +kernel
theorem dX6_paysBack_26 : decode cX6_paysBack 26 = .ok (.iaload, 1) := by decide +kernel
theorem dX6_paysBack_27 : decode cX6_paysBack 27 = .ok (.if_icmp .ge 156, 3) := by decide +kernel
theorem dX6_paysBack_30 : decode cX6_paysBack 30 = .ok (.iconst 0, 1) := by decide +kernel
theorem dX6_paysBack_31 : decode cX6_paysBack 31 = .ok (.istore 6, 2) := by decide +kernel
theorem dX6_paysBack_33 : decode cX6_paysBack 33 = .ok (.aload_n 0, 1) := by decide +kernel
theorem dX6_paysBack_34 : decode cX6_paysBack 34 = .ok (.iload 5, 2) := by decide +kernel
theorem dX6_paysBack_36 : decode cX6_paysBack 36 = .ok (.iconst 1, 1) := by decide +kernel
theorem dX6_paysBack_37 : decode cX6_paysBack 37 = .ok (.invokevirtual 97, 3) := by decide +kernel
theorem dX6_paysBack_40 : decode cX6_paysBack 40 = .ok (.iload_n 1, 1) := by decide +kernel
theorem dX6_paysBack_41 : decode cX6_paysBack 41 = .ok (.if_icmp .ne 55, 3) := by decide +kernel
theorem dX6_paysBack_44 : decode cX6_paysBack 44 = .ok (.iload_n 3, 1) := by decide +kernel
theorem dX6_paysBack_45 : decode cX6_paysBack 45 = .ok (.aload_n 0, 1) := by decide +kernel
theorem dX6_paysBack_46 : decode cX6_paysBack 46 = .ok (.iload 5, 2) := by decide +kernel
theorem dX6_paysBack_48 : decode cX6_paysBack 48 = .ok (.iconst 2, 1) := by decide +kernel
theorem dX6_paysBack_49 : decode cX6_paysBack 49 = .ok (.invokevirtual 97, 3) := by decide +kernel
theorem dX6_paysBack_52 : decode cX6_paysBack 52 = .ok (.if_icmp .ge 7, 3) := by decide +kernel
theorem dX6_paysBack_55 : decode cX6_paysBack 55 = .ok (.iload_n 3, 1) := by decide +kernel
theorem dX6_paysBack_56 : decode cX6_paysBack 56 = .ok (.goto 10, 3) := by decide +kernel
theorem dX6_paysBack_59 : decode cX6_paysBack 59 = .ok (.aload_n 0, 1) := by decide +kernel
theorem dX6_paysBack_60 : decode cX6_paysBack 60 = .ok (.iload 5, 2) := by decide +kernel
theorem dX6_paysBack_62 : decode cX6_paysBack 62 = .ok (.iconst 2, 1) := by decide +kernel
theorem dX6_paysBack_63 : decode cX6_paysBack 63 = .ok (.invokevirtual 97, 3) := by decide +kernel
theorem dX6_paysBack_66 : decode cX6_paysBack 66 = .ok (.istore 6, 2) := by decide +kernel
theorem dX6_paysBack_68 : decode cX6_paysBack 68 = .ok (.aload_n 0, 1) := by decide +kernel
theorem dX6_paysBack_69 : decode cX6_paysBack 69 = .ok (.iload_n 1, 1) := by decide +kernel
theorem dX6_paysBack_70 : decode cX6_paysBack 70 = .ok (.iconst 2, 1) := by decide +kernel
theorem dX6_paysBack_71 : decode cX6_paysBack 71 = .ok (.iload 6, 2) := by decide +kernel
theorem dX6_paysBack_73 : decode cX6_paysBack 73 = .ok (.ineg, 1) := by decide +kernel
theorem dX6_paysBack_74 : decode cX6_paysBack 74 = .ok (.invokevirtual 94, 3) := by decide +kernel
theorem dX6_paysBack_77 : decode cX6_paysBack 77 = .ok (.aload_n 0, 1) := by decide +kernel
theorem dX6_paysBack_78 : decode cX6_paysBack 78 = .ok (.aload_n 0, 1) := by decide +kernel
theorem dX6_paysBack_79 : decode cX6_paysBack 79 = .ok (.iload 5, 2) := by decide +kernel
theorem dX6_paysBack_81 : decode cX6_paysBack 81 = .ok (.iconst 0, 1) := by decide +kernel
theorem dX6_paysBack_82 : decode cX6_paysBack 82 = .ok (.invokevirtual 97, 3) := by decide +kernel
theorem dX6_paysBack_85 : decode cX6_paysBack 85 = .ok (.iconst 2, 1) := by decide +kernel
theorem dX6_paysBack_86 : decode cX6_paysBack 86 = .ok (.iload 6, 2) := by decide +kernel
theorem dX6_paysBack_88 : decode cX6_paysBack 88 = .ok (.invokevirtual 94, 3) := by decide +kernel
theorem dX6_paysBack_91 : decode cX6_paysBack 91 = .ok (.iload_n 3, 1) := by decide +kernel
theorem dX6_paysBack_92 : decode cX6_paysBack 92 = .ok (.iload 6, 2) := by decide +kernel
theorem dX6_paysBack_94 : decode cX6_paysBack 94 = .ok (.isub, 1) := by decide +kernel
theorem dX6_paysBack_95 : decode cX6_paysBack 95 = .ok (.istore_n 3, 1) := by decide +kernel
theorem dX6_paysBack_96 : decode cX6_paysBack 96 = .ok (.aload_n 0, 1) := by decide +kernel
theorem dX6_paysBack_97 : decode cX6_paysBack 97 = .ok (.iload 5, 2) := by decide +kernel
theorem dX6_paysBack_99 : decode cX6_paysBack 99 = .ok (.iconst 2, 1) := by decide +kernel
theorem dX6_paysBack_100 : decode cX6_paysBack 100 = .ok (.invokevirtual 97, 3) := by decide +kernel
theorem dX6_paysBack_103 : decode cX6_paysBack 103 = .ok (.iload 6, 2) := by decide +kernel
theorem dX6_paysBack_105 : decode cX6_paysBack 105 = .ok (.isub, 1) := by decide +kernel
theorem dX6_paysBack_106 : decode cX6_paysBack 106 = .ok (.istore 7, 2) := by decide +kernel
theorem dX6_paysBack_108 : decode cX6_paysBack 108 = .ok (.iload 7, 2) := by decide +kernel
theorem dX6_paysBack_110 : decode cX6_paysBack 110 = .ok (.ifCond .le 67, 3) := by decide +kernel
theorem dX6_paysBack_113 : decode cX6_paysBack 113 = .ok (.aload_n 0, 1) := by decide +kernel
theorem dX6_paysBack_114 : decode cX6_paysBack 114 = .ok (.getfield 7, 3) := by decide +kernel
theorem dX6_paysBack_117 : decode cX6_paysBack 117 = .ok (.sipush 325, 3) := by decide +kernel
theorem dX6_paysBack_120 : decode cX6_paysBack 120 = .ok (.iconst 3, 1) := by decide +kernel
theorem dX6_paysBack_121 : decode cX6_paysBack 121 = .ok (.iload 4, 2) := by decide +kernel
theorem dX6_paysBack_123 : decode cX6_paysBack 123 = .ok (.imul, 1) := by decide +kernel
theorem dX6_paysBack_124 : decode cX6_paysBack 124 = .ok (.iadd, 1) := by decide +kernel
theorem dX6_paysBack_125 : decode cX6_paysBack 125 = .ok (.iconst 0, 1) := by decide +kernel
theorem dX6_paysBack_126 : decode cX6_paysBack 126 = .ok (.iadd, 1) := by decide +kernel
theorem dX6_paysBack_127 : decode cX6_paysBack 127 = .ok (.aload_n 0, 1) := by decide +kernel
theorem dX6_paysBack_128 : decode cX6_paysBack 128 = .ok (.iload 5, 2) := by decide +kernel
theorem dX6_paysBack_130 : decode cX6_paysBack 130 = .ok (.iconst 0, 1) := by decide +kernel
theorem dX6_paysBack_131 : decode cX6_paysBack 131 = .ok (.invokevirtual 97, 3) := by decide +kernel
theorem dX6_paysBack_134 : decode cX6_paysBack 134 = .ok (.iastore, 1) := by decide +kernel
theorem dX6_paysBack_135 : decode cX6_paysBack 135 = .ok (.aload_n 0, 1) := by decide +kernel
theorem dX6_paysBack_136 : decode cX6_paysBack 136 = .ok (.getfield 7, 3) := by decide +kernel
theorem dX6_paysBack_139 : decode cX6_paysBack 139 = .ok (.sipush 325, 3) := by decide +kernel
theorem dX6_paysBack_142 : decode cX6_paysBack 142 = .ok (.iconst 3, 1) := by decide +kernel
theorem dX6_paysBack_143 : decode cX6_paysBack 143 = .ok (.iload 4, 2) := by decide +kernel
theorem dX6_paysBack_145 : decode cX6_paysBack 145 = .ok (.imul, 1) := by decide +kernel
theorem dX6_paysBack_146 : decode cX6_paysBack 146 = .ok (.iadd, 1) := by decide +kernel
theorem dX6_paysBack_147 : decode cX6_paysBack 147 = .ok (.iconst 1, 1) := by decide +kernel
theorem dX6_paysBack_148 : decode cX6_paysBack 148 = .ok (.iadd, 1) := by decide +kernel
theorem dX6_paysBack_149 : decode cX6_paysBack 149 = .ok (.aload_n 0, 1) := by decide +kernel
theorem dX6_paysBack_150 : decode cX6_paysBack 150 = .ok (.iload 5, 2) := by decide +kernel
theorem dX6_paysBack_152 : decode cX6_paysBack 152 = .ok (.iconst 1, 1) := by decide +kernel
theorem dX6_paysBack_153 : decode cX6_paysBack 153 = .ok (.invokevirtual 97, 3) := by decide +kernel
theorem dX6_paysBack_156 : decode cX6_paysBack 156 = .ok (.iastore, 1) := by decide +kernel
theorem dX6_paysBack_157 : decode cX6_paysBack 157 = .ok (.aload_n 0, 1) := by decide +kernel
theorem dX6_paysBack_158 : decode cX6_paysBack 158 = .ok (.getfield 7, 3) := by decide +kernel
theorem dX6_paysBack_161 : decode cX6_paysBack 161 = .ok (.sipush 325, 3) := by decide +kernel
theorem dX6_paysBack_164 : decode cX6_paysBack 164 = .ok (.iconst 3, 1) := by decide +kernel
theorem dX6_paysBack_165 : decode cX6_paysBack 165 = .ok (.iload 4, 2) := by decide +kernel
theorem dX6_paysBack_167 : decode cX6_paysBack 167 = .ok (.imul, 1) := by decide +kernel
theorem dX6_paysBack_168 : decode cX6_paysBack 168 = .ok (.iadd, 1) := by decide +kernel
theorem dX6_paysBack_169 : decode cX6_paysBack 169 = .ok (.iconst 2, 1) := by decide +kernel
theorem dX6_paysBack_170 : decode cX6_paysBack 170 = .ok (.iadd, 1) := by decide +kernel
theorem dX6_paysBack_171 : decode cX6_paysBack 171 = .ok (.iload 7, 2) := by decide +kernel
theorem dX6_paysBack_173 : decode cX6_paysBack 173 = .ok (.iastore, 1) := by decide +kernel
theorem dX6_paysBack_174 : decode cX6_paysBack 174 = .ok (.iinc 4 1, 3) := by decide +kernel
theorem dX6_paysBack_177 : decode cX6_paysBack 177 = .ok (.iinc 5 1, 3) := by decide +kernel
theorem dX6_paysBack_180 : decode cX6_paysBack 180 = .ok (.goto (-162), 3) := by decide +kernel
theorem dX6_paysBack_183 : decode cX6_paysBack 183 = .ok (.aload_n 0, 1) := by decide +kernel
theorem dX6_paysBack_184 : decode cX6_paysBack 184 = .ok (.getfield 7, 3) := by decide +kernel
theorem dX6_paysBack_187 : decode cX6_paysBack 187 = .ok (.bipush 8, 2) := by decide +kernel
theorem dX6_paysBack_189 : decode cX6_paysBack 189 = .ok (.iload 4, 2) := by decide +kernel
theorem dX6_paysBack_191 : decode cX6_paysBack 191 = .ok (.iastore, 1) := by decide +kernel
theorem dX6_paysBack_192 : decode cX6_paysBack 192 = .ok (.return_, 1) := by decide +kernel
theorem dX6_bets_0 : decode cX6_bets 0 = .ok (.iconst 0, 1) := by decide +kernel
theorem dX6_bets_1 : decode cX6_bets 1 = .ok (.istore_n 2, 1) := by decide +kernel
theorem dX6_bets_2 : decode cX6_bets 2 = .ok (.iconst 0, 1) := by decide +kernel
theorem dX6_bets_3 : decode cX6_bets 3 = .ok (.istore_n 3, 1) := by decide +kernel
theorem dX6_bets_4 : decode cX6_bets 4 = .ok (.iconst 0, 1) := by decide +kernel
theorem dX6_bets_5 : decode cX6_bets 5 = .ok (.istore 4, 2) := by decide +kernel
theorem dX6_bets_7 : decode cX6_bets 7 = .ok (.iload 4, 2) := by decide +kernel
theorem dX6_bets_9 : decode cX6_bets 9 = .ok (.aload_n 0, 1) := by decide +kernel
theorem dX6_bets_10 : decode cX6_bets 10 = .ok (.getfield 7, 3) := by decide +kernel
theorem dX6_bets_13 : decode cX6_bets 13 = .ok (.bipush 7, 2) := by decide +kernel
theorem dX6_bets_15 : decode cX6_bets 15 = .ok (.iaload, 1) := by decide +kernel
theorem dX6_bets_16 : decode cX6_bets 16 = .ok (.if_icmp .ge 81, 3) := by decide +kernel
theorem dX6_bets_19 : decode cX6_bets 19 = .ok (.iload_n 2, 1) := by decide +kernel
theorem dX6_bets_20 : decode cX6_bets 20 = .ok (.aload_n 0, 1) := by decide +kernel
theorem dX6_bets_21 : decode cX6_bets 21 = .ok (.getfield 22, 3) := by decide +kernel
theorem dX6_bets_24 : decode cX6_bets 24 = .ok (.iload 4, 2) := by decide +kernel
theorem dX6_bets_26 : decode cX6_bets 26 = .ok (.iaload, 1) := by decide +kernel
theorem dX6_bets_27 : decode cX6_bets 27 = .ok (.iconst 1, 1) := by decide +kernel
theorem dX6_bets_28 : decode cX6_bets 28 = .ok (.if_icmp .ne 24, 3) := by decide +kernel
theorem dX6_bets_31 : decode cX6_bets 31 = .ok (.aload_n 0, 1) := by decide +kernel
theorem dX6_bets_32 : decode cX6_bets 32 = .ok (.getfield 25, 3) := by decide +kernel
theorem dX6_bets_35 : decode cX6_bets 35 = .ok (.iload 4, 2) := by decide +kernel
theorem dX6_bets_37 : decode cX6_bets 37 = .ok (.iaload, 1) := by decide +kernel
theorem dX6_bets_38 : decode cX6_bets 38 = .ok (.iload_n 1, 1) := by decide +kernel
theorem dX6_bets_39 : decode cX6_bets 39 = .ok (.if_icmp .eq 13, 3) := by decide +kernel
theorem dX6_bets_42 : decode cX6_bets 42 = .ok (.aload_n 0, 1) := by decide +kernel
theorem dX6_bets_43 : decode cX6_bets 43 = .ok (.getfield 28, 3) := by decide +kernel
theorem dX6_bets_46 : decode cX6_bets 46 = .ok (.iload 4, 2) := by decide +kernel
theorem dX6_bets_48 : decode cX6_bets 48 = .ok (.iaload, 1) := by decide +kernel
theorem dX6_bets_49 : decode cX6_bets 49 = .ok (.goto 4, 3) := by decide +kernel
theorem dX6_bets_52 : decode cX6_bets 52 = .ok (.iconst 0, 1) := by decide +kernel
theorem dX6_bets_53 : decode cX6_bets 53 = .ok (.iadd, 1) := by decide +kernel
theorem dX6_bets_54 : decode cX6_bets 54 = .ok (.istore_n 2, 1) := by decide +kernel
theorem dX6_bets_55 : decode cX6_bets 55 = .ok (.iload_n 3, 1) := by decide +kernel
theorem dX6_bets_56 : decode cX6_bets 56 = .ok (.aload_n 0, 1) := by decide +kernel
theorem dX6_bets_57 : decode cX6_bets 57 = .ok (.getfield 22, 3) := by decide +kernel
theorem dX6_bets_60 : decode cX6_bets 60 = .ok (.iload 4, 2) := by decide +kernel
theorem dX6_bets_62 : decode cX6_bets 62 = .ok (.iaload, 1) := by decide +kernel
theorem dX6_bets_63 : decode cX6_bets 63 = .ok (.iconst 1, 1) := by decide +kernel
theorem dX6_bets_64 : decode cX6_bets 64 = .ok (.if_icmp .ne 24, 3) := by decide +kernel
theorem dX6_bets_67 : decode cX6_bets 67 = .ok (.aload_n 0, 1) := by decide +kernel
theorem dX6_bets_68 : decode cX6_bets 68 = .ok (.getfield 25, 3) := by decide +kernel
theorem dX6_bets_71 : decode cX6_bets 71 = .ok (.iload 4, 2) := by decide +kernel
theorem dX6_bets_73 : decode cX6_bets 73 = .ok (.iaload, 1) := by decide +kernel
theorem dX6_bets_74 : decode cX6_bets 74 = .ok (.iload_n 1, 1) := by decide +kernel
theorem dX6_bets_75 : decode cX6_bets 75 = .ok (.if_icmp .ne 13, 3) := by decide +kernel
theorem dX6_bets_78 : decode cX6_bets 78 = .ok (.aload_n 0, 1) := by decide +kernel
theorem dX6_bets_79 : decode cX6_bets 79 = .ok (.getfield 28, 3) := by decide +kernel
theorem dX6_bets_82 : decode cX6_bets 82 = .ok (.iload 4, 2) := by decide +kernel
theorem dX6_bets_84 : decode cX6_bets 84 = .ok (.iaload, 1) := by decide +kernel
theorem dX6_bets_85 : decode cX6_bets 85 = .ok (.goto 4, 3) := by decide +kernel
theorem dX6_bets_88 : decode cX6_bets 88 = .ok (.iconst 0, 1) := by decide +kernel
theorem dX6_bets_89 : decode cX6_bets 89 = .ok (.iadd, 1) := by decide +kernel
theorem dX6_bets_90 : decode cX6_bets 90 = .ok (.istore_n 3, 1) := by decide +kernel
theorem dX6_bets_91 : decode cX6_bets 91 = .ok (.iinc 4 1, 3) := by decide +kernel
theorem dX6_bets_94 : decode cX6_bets 94 = .ok (.goto (-87), 3) := by decide +kernel
theorem dX6_bets_97 : decode cX6_bets 97 = .ok (.iload_n 2, 1) := by decide +kernel
theorem dX6_bets_98 : decode cX6_bets 98 = .ok (.ifCond .eq 7, 3) := by decide +kernel
theorem dX6_bets_101 : decode cX6_bets 101 = .ok (.iload_n 3, 1) := by decide +kernel
theorem dX6_bets_102 : decode cX6_bets 102 = .ok (.ifCond .ne 5, 3) := by decide +kernel
theorem dX6_bets_105 : decode cX6_bets 105 = .ok (.iconst 0, 1) := by decide +kernel
theorem dX6_bets_106 : decode cX6_bets 106 = .ok (.ireturn, 1) := by decide +kernel
theorem dX6_bets_107 : decode cX6_bets 107 = .ok (.iload_n 2, 1) := by decide +kernel
theorem dX6_bets_108 : decode cX6_bets 108 = .ok (.iload_n 2, 1) := by decide +kernel
theorem dX6_bets_109 : decode cX6_bets 109 = .ok (.aload_n 0, 1) := by decide +kernel
theorem dX6_bets_110 : decode cX6_bets 110 = .ok (.getfield 7, 3) := by decide +kernel
theorem dX6_bets_113 : decode cX6_bets 113 = .ok (.iconst 1, 1) := by decide +kernel
theorem dX6_bets_114 : decode cX6_bets 114 = .ok (.iaload, 1) := by decide +kernel
theorem dX6_bets_115 : decode cX6_bets 115 = .ok (.imul, 1) := by decide +kernel
theorem dX6_bets_116 : decode cX6_bets 116 = .ok (.bipush 100, 2) := by decide +kernel
theorem dX6_bets_118 : decode cX6_bets 118 = .ok (.idiv, 1) := by decide +kernel
theorem dX6_bets_119 : decode cX6_bets 119 = .ok (.isub, 1) := by decide +kernel
theorem dX6_bets_120 : decode cX6_bets 120 = .ok (.istore 4, 2) := by decide +kernel
theorem dX6_bets_122 : decode cX6_bets 122 = .ok (.iload_n 2, 1) := by decide +kernel
theorem dX6_bets_123 : decode cX6_bets 123 = .ok (.istore 5, 2) := by decide +kernel
theorem dX6_bets_125 : decode cX6_bets 125 = .ok (.iconst 0, 1) := by decide +kernel
theorem dX6_bets_126 : decode cX6_bets 126 = .ok (.istore 6, 2) := by decide +kernel
theorem dX6_bets_128 : decode cX6_bets 128 = .ok (.iload 6, 2) := by decide +kernel
theorem dX6_bets_130 : decode cX6_bets 130 = .ok (.aload_n 0, 1) := by decide +kernel
theorem dX6_bets_131 : decode cX6_bets 131 = .ok (.getfield 7, 3) := by decide +kernel
theorem dX6_bets_134 : decode cX6_bets 134 = .ok (.bipush 7, 2) := by decide +kernel
theorem dX6_bets_136 : decode cX6_bets 136 = .ok (.iaload, 1) := by decide +kernel
theorem dX6_bets_137 : decode cX6_bets 137 = .ok (.if_icmp .ge 50, 3) := by decide +kernel
theorem dX6_bets_140 : decode cX6_bets 140 = .ok (.aload_n 0, 1) := by decide +kernel
theorem dX6_bets_141 : decode cX6_bets 141 = .ok (.iload 6, 2) := by decide +kernel
theorem dX6_bets_143 : decode cX6_bets 143 = .ok (.iconst 2, 1) := by decide +kernel
theorem dX6_bets_144 : decode cX6_bets 144 = .ok (.aload_n 0, 1) := by decide +kernel
theorem dX6_bets_145 : decode cX6_bets 145 = .ok (.getfield 22, 3) := by decide +kernel
theorem dX6_bets_148 : decode cX6_bets 148 = .ok (.iload 6, 2) := by decide +kernel
theorem dX6_bets_150 : decode cX6_bets 150 = .ok (.iaload, 1) := by decide +kernel
theorem dX6_bets_151 : decode cX6_bets 151 = .ok (.iconst 1, 1) := by decide +kernel
theorem dX6_bets_152 : decode cX6_bets 152 = .ok (.if_icmp .ne 25, 3) := by decide +kernel
theorem dX6_bets_155 : decode cX6_bets 155 = .ok (.aload_n 0, 1) := by decide +kernel
theorem dX6_bets_156 : decode cX6_bets 156 = .ok (.getfield 25, 3) := by decide +kernel
theorem dX6_bets_159 : decode cX6_bets 159 = .ok (.iload 6, 2) := by decide +kernel
theorem dX6_bets_161 : decode cX6_bets 161 = .ok (.iaload, 1) := by decide +kernel
theorem dX6_bets_162 : decode cX6_bets 162 = .ok (.iload_n 1, 1) := by decide +kernel
theorem dX6_bets_163 : decode cX6_bets 163 = .ok (.if_icmp .eq 14, 3) := by decide +kernel
theorem dX6_bets_166 : decode cX6_bets 166 = .ok (.aload_n 0, 1) := by decide +kernel
theorem dX6_bets_167 : decode cX6_bets 167 = .ok (.getfield 28, 3) := by decide +kernel
theorem dX6_bets_170 : decode cX6_bets 170 = .ok (.iload 6, 2) := by decide +kernel
theorem dX6_bets_172 : decode cX6_bets 172 = .ok (.iaload, 1) := by decide +kernel
theorem dX6_bets_173 : decode cX6_bets 173 = .ok (.ineg, 1) := by decide +kernel
theorem dX6_bets_174 : decode cX6_bets 174 = .ok (.goto 4, 3) := by decide +kernel
theorem dX6_bets_177 : decode cX6_bets 177 = .ok (.iconst 0, 1) := by decide +kernel
theorem dX6_bets_178 : decode cX6_bets 178 = .ok (.invokevirtual 94, 3) := by decide +kernel
theorem dX6_bets_181 : decode cX6_bets 181 = .ok (.iinc 6 1, 3) := by decide +kernel
theorem dX6_bets_184 : decode cX6_bets 184 = .ok (.goto (-56), 3) := by decide +kernel
theorem dX6_bets_187 : decode cX6_bets 187 = .ok (.iconst 0, 1) := by decide +kernel
theorem dX6_bets_188 : decode cX6_bets 188 = .ok (.istore 6, 2) := by decide +kernel
theorem dX6_bets_190 : decode cX6_bets 190 = .ok (.iload 6, 2) := by decide +kernel
theorem dX6_bets_192 : decode cX6_bets 192 = .ok (.aload_n 0, 1) := by decide +kernel
theorem dX6_bets_193 : decode cX6_bets 193 = .ok (.getfield 7, 3) := by decide +kernel
theorem dX6_bets_196 : decode cX6_bets 196 = .ok (.bipush 7, 2) := by decide +kernel
theorem dX6_bets_198 : decode cX6_bets 198 = .ok (.iaload, 1) := by decide +kernel
theorem dX6_bets_199 : decode cX6_bets 199 = .ok (.if_icmp .ge 78, 3) := by decide +kernel
theorem dX6_bets_202 : decode cX6_bets 202 = .ok (.aload_n 0, 1) := by decide +kernel
theorem dX6_bets_203 : decode cX6_bets 203 = .ok (.getfield 22, 3) := by decide +kernel
theorem dX6_bets_206 : decode cX6_bets 206 = .ok (.iload 6, 2) := by decide +kernel
theorem dX6_bets_208 : decode cX6_bets 208 = .ok (.iaload, 1) := by decide +kernel
theorem dX6_bets_209 : decode cX6_bets 209 = .ok (.iconst 1, 1) := by decide +kernel
theorem dX6_bets_210 : decode cX6_bets 210 = .ok (.if_icmp .ne 29, 3) := by decide +kernel
theorem dX6_bets_213 : decode cX6_bets 213 = .ok (.aload_n 0, 1) := by decide +kernel
theorem dX6_bets_214 : decode cX6_bets 214 = .ok (.getfield 25, 3) := by decide +kernel
theorem dX6_bets_217 : decode cX6_bets 217 = .ok (.iload 6, 2) := by decide +kernel
theorem dX6_bets_219 : decode cX6_bets 219 = .ok (.iaload, 1) := by decide +kernel
theorem dX6_bets_220 : decode cX6_bets 220 = .ok (.iload_n 1, 1) := by decide +kernel
theorem dX6_bets_221 : decode cX6_bets 221 = .ok (.if_icmp .ne 18, 3) := by decide +kernel
theorem dX6_bets_224 : decode cX6_bets 224 = .ok (.iload 4, 2) := by decide +kernel
theorem dX6_bets_226 : decode cX6_bets 226 = .ok (.aload_n 0, 1) := by decide +kernel
theorem dX6_bets_227 : decode cX6_bets 227 = .ok (.getfield 28, 3) := by decide +kernel
theorem dX6_bets_230 : decode cX6_bets 230 = .ok (.iload 6, 2) := by decide +kernel
theorem dX6_bets_232 : decode cX6_bets 232 = .ok (.iaload, 1) := by decide +kernel
theorem dX6_bets_233 : decode cX6_bets 233 = .ok (.imul, 1) := by decide +kernel
theorem dX6_bets_234 : decode cX6_bets 234 = .ok (.iload_n 3, 1) := by decide +kernel
theorem dX6_bets_235 : decode cX6_bets 235 = .ok (.idiv, 1) := by decide +kernel
theorem dX6_bets_236 : decode cX6_bets 236 = .ok (.goto 4, 3) := by decide +kernel
theorem dX6_bets_239 : decode cX6_bets 239 = .ok (.iconst 0, 1) := by decide +kernel
theorem dX6_bets_240 : decode cX6_bets 240 = .ok (.istore 7, 2) := by decide +kernel
theorem dX6_bets_242 : decode cX6_bets 242 = .ok (.iload 7, 2) := by decide +kernel
theorem dX6_bets_244 : decode cX6_bets 244 = .ok (.ifCond .le 27, 3) := by decide +kernel
theorem dX6_bets_247 : decode cX6_bets 247 = .ok (.iload 5, 2) := by decide +kernel
theorem dX6_bets_249 : decode cX6_bets 249 = .ok (.iload 7, 2) := by decide +kernel
theorem dX6_bets_251 : decode cX6_bets 251 = .ok (.isub, 1) := by decide +kernel
theorem dX6_bets_252 : decode cX6_bets 252 = .ok (.istore 5, 2) := by decide +kernel
theorem dX6_bets_254 : decode cX6_bets 254 = .ok (.aload_n 0, 1) := by decide +kernel
theorem dX6_bets_255 : decode cX6_bets 255 = .ok (.iload 6, 2) := by decide +kernel
theorem dX6_bets_257 : decode cX6_bets 257 = .ok (.iconst 2, 1) := by decide +kernel
theorem dX6_bets_258 : decode cX6_bets 258 = .ok (.iload 7, 2) := by decide +kernel
theorem dX6_bets_260 : decode cX6_bets 260 = .ok (.invokevirtual 94, 3) := by decide +kernel
theorem dX6_bets_263 : decode cX6_bets 263 = .ok (.aload_n 0, 1) := by decide +kernel
theorem dX6_bets_264 : decode cX6_bets 264 = .ok (.iload 6, 2) := by decide +kernel
theorem dX6_bets_266 : decode cX6_bets 266 = .ok (.iload 7, 2) := by decide +kernel
theorem dX6_bets_268 : decode cX6_bets 268 = .ok (.invokevirtual 100, 3) := by decide +kernel
theorem dX6_bets_271 : decode cX6_bets 271 = .ok (.iinc 6 1, 3) := by decide +kernel
theorem dX6_bets_274 : decode cX6_bets 274 = .ok (.goto (-84), 3) := by decide +kernel
theorem dX6_bets_277 : decode cX6_bets 277 = .ok (.aload_n 0, 1) := by decide +kernel
theorem dX6_bets_278 : decode cX6_bets 278 = .ok (.getfield 7, 3) := by decide +kernel
theorem dX6_bets_281 : decode cX6_bets 281 = .ok (.iconst 4, 1) := by decide +kernel
theorem dX6_bets_282 : decode cX6_bets 282 = .ok (.dup2, 1) := by decide +kernel
theorem dX6_bets_283 : decode cX6_bets 283 = .ok (.iaload, 1) := by decide +kernel
theorem dX6_bets_284 : decode cX6_bets 284 = .ok (.iload 5, 2) := by decide +kernel
theorem dX6_bets_286 : decode cX6_bets 286 = .ok (.iadd, 1) := by decide +kernel
theorem dX6_bets_287 : decode cX6_bets 287 = .ok (.iastore, 1) := by decide +kernel
theorem dX6_bets_288 : decode cX6_bets 288 = .ok (.aload_n 0, 1) := by decide +kernel
theorem dX6_bets_289 : decode cX6_bets 289 = .ok (.getfield 7, 3) := by decide +kernel
theorem dX6_bets_292 : decode cX6_bets 292 = .ok (.bipush 6, 2) := by decide +kernel
theorem dX6_bets_294 : decode cX6_bets 294 = .ok (.dup2, 1) := by decide +kernel
theorem dX6_bets_295 : decode cX6_bets 295 = .ok (.iaload, 1) := by decide +kernel
theorem dX6_bets_296 : decode cX6_bets 296 = .ok (.iconst 1, 1) := by decide +kernel
theorem dX6_bets_297 : decode cX6_bets 297 = .ok (.iadd, 1) := by decide +kernel
theorem dX6_bets_298 : decode cX6_bets 298 = .ok (.iastore, 1) := by decide +kernel
theorem dX6_bets_299 : decode cX6_bets 299 = .ok (.iload_n 2, 1) := by decide +kernel
theorem dX6_bets_300 : decode cX6_bets 300 = .ok (.ireturn, 1) := by decide +kernel
theorem dX6_learns_0 : decode cX6_learns 0 = .ok (.bipush 10, 2) := by decide +kernel
theorem dX6_learns_2 : decode cX6_learns 2 = .ok (.aload_n 0, 1) := by decide +kernel
theorem dX6_learns_3 : decode cX6_learns 3 = .ok (.iload_n 1, 1) := by decide +kernel
theorem dX6_learns_4 : decode cX6_learns 4 = .ok (.iload_n 2, 1) := by decide +kernel
theorem dX6_learns_5 : decode cX6_learns 5 = .ok (.invokevirtual 58, 3) := by decide +kernel
theorem dX6_learns_8 : decode cX6_learns 8 = .ok (.iadd, 1) := by decide +kernel
theorem dX6_learns_9 : decode cX6_learns 9 = .ok (.istore 4, 2) := by decide +kernel
theorem dX6_learns_11 : decode cX6_learns 11 = .ok (.aload_n 0, 1) := by decide +kernel
theorem dX6_learns_12 : decode cX6_learns 12 = .ok (.iload_n 1, 1) := by decide +kernel
theorem dX6_learns_13 : decode cX6_learns 13 = .ok (.iload 4, 2) := by decide +kernel
theorem dX6_learns_15 : decode cX6_learns 15 = .ok (.invokevirtual 46, 3) := by decide +kernel
theorem dX6_learns_18 : decode cX6_learns 18 = .ok (.istore 5, 2) := by decide +kernel
theorem dX6_learns_20 : decode cX6_learns 20 = .ok (.aload_n 0, 1) := by decide +kernel
theorem dX6_learns_21 : decode cX6_learns 21 = .ok (.iload_n 1, 1) := by decide +kernel
theorem dX6_learns_22 : decode cX6_learns 22 = .ok (.iload 4, 2) := by decide +kernel
theorem dX6_learns_24 : decode cX6_learns 24 = .ok (.iload_n 3, 1) := by decide +kernel
theorem dX6_learns_25 : decode cX6_learns 25 = .ok (.iconst 1, 1) := by decide +kernel
theorem dX6_learns_26 : decode cX6_learns 26 = .ok (.if_icmp .ne 20, 3) := by decide +kernel
theorem dX6_learns_29 : decode cX6_learns 29 = .ok (.iload 5, 2) := by decide +kernel
theorem dX6_learns_31 : decode cX6_learns 31 = .ok (.iconst 3, 1) := by decide +kernel
theorem dX6_learns_32 : decode cX6_learns 32 = .ok (.if_icmp .ge 10, 3) := by decide +kernel
theorem dX6_learns_35 : decode cX6_learns 35 = .ok (.iload 5, 2) := by decide +kernel
theorem dX6_learns_37 : decode cX6_learns 37 = .ok (.iconst 1, 1) := by decide +kernel
theorem dX6_learns_38 : decode cX6_learns 38 = .ok (.iadd, 1) := by decide +kernel
theorem dX6_learns_39 : decode cX6_learns 39 = .ok (.goto 20, 3) := by decide +kernel
theorem dX6_learns_42 : decode cX6_learns 42 = .ok (.iconst 3, 1) := by decide +kernel
theorem dX6_learns_43 : decode cX6_learns 43 = .ok (.goto 16, 3) := by decide +kernel
theorem dX6_learns_46 : decode cX6_learns 46 = .ok (.iload 5, 2) := by decide +kernel
theorem dX6_learns_48 : decode cX6_learns 48 = .ok (.ifCond .le 10, 3) := by decide +kernel
theorem dX6_learns_51 : decode cX6_learns 51 = .ok (.iload 5, 2) := by decide +kernel
theorem dX6_learns_53 : decode cX6_learns 53 = .ok (.iconst 1, 1) := by decide +kernel
theorem dX6_learns_54 : decode cX6_learns 54 = .ok (.isub, 1) := by decide +kernel
theorem dX6_learns_55 : decode cX6_learns 55 = .ok (.goto 4, 3) := by decide +kernel
theorem dX6_learns_58 : decode cX6_learns 58 = .ok (.iconst 0, 1) := by decide +kernel
theorem dX6_learns_59 : decode cX6_learns 59 = .ok (.invokevirtual 82, 3) := by decide +kernel
theorem dX6_learns_62 : decode cX6_learns 62 = .ok (.return_, 1) := by decide +kernel
theorem dX6_comes_0 : decode cX6_comes 0 = .ok (.iconst 0, 1) := by decide +kernel
theorem dX6_comes_1 : decode cX6_comes 1 = .ok (.istore_n 3, 1) := by decide +kernel
theorem dX6_comes_2 : decode cX6_comes 2 = .ok (.iload_n 3, 1) := by decide +kernel
theorem dX6_comes_3 : decode cX6_comes 3 = .ok (.aload_n 0, 1) := by decide +kernel
theorem dX6_comes_4 : decode cX6_comes 4 = .ok (.getfield 7, 3) := by decide +kernel
theorem dX6_comes_7 : decode cX6_comes 7 = .ok (.bipush 7, 2) := by decide +kernel
theorem dX6_comes_9 : decode cX6_comes 9 = .ok (.iaload, 1) := by decide +kernel
theorem dX6_comes_10 : decode cX6_comes 10 = .ok (.if_icmp .ge 64, 3) := by decide +kernel
theorem dX6_comes_13 : decode cX6_comes 13 = .ok (.aload_n 0, 1) := by decide +kernel
theorem dX6_comes_14 : decode cX6_comes 14 = .ok (.getfield 22, 3) := by decide +kernel
theorem dX6_comes_17 : decode cX6_comes 17 = .ok (.iload_n 3, 1) := by decide +kernel
theorem dX6_comes_18 : decode cX6_comes 18 = .ok (.aload_n 0, 1) := by decide +kernel
theorem dX6_comes_19 : decode cX6_comes 19 = .ok (.iload_n 3, 1) := by decide +kernel
theorem dX6_comes_20 : decode cX6_comes 20 = .ok (.invokevirtual 70, 3) := by decide +kernel
theorem dX6_comes_23 : decode cX6_comes 23 = .ok (.ifCond .eq 7, 3) := by decide +kernel
theorem dX6_comes_26 : decode cX6_comes 26 = .ok (.iconst 1, 1) := by decide +kernel
theorem dX6_comes_27 : decode cX6_comes 27 = .ok (.goto 4, 3) := by decide +kernel
theorem dX6_comes_30 : decode cX6_comes 30 = .ok (.iconst 0, 1) := by decide +kernel
theorem dX6_comes_31 : decode cX6_comes 31 = .ok (.iastore, 1) := by decide +kernel
theorem dX6_comes_32 : decode cX6_comes 32 = .ok (.aload_n 0, 1) := by decide +kernel
theorem dX6_comes_33 : decode cX6_comes 33 = .ok (.getfield 25, 3) := by decide +kernel
theorem dX6_comes_36 : decode cX6_comes 36 = .ok (.iload_n 3, 1) := by decide +kernel
theorem dX6_comes_37 : decode cX6_comes 37 = .ok (.aload_n 0, 1) := by decide +kernel
theorem dX6_comes_38 : decode cX6_comes 38 = .ok (.iload_n 3, 1) := by decide +kernel
theorem dX6_comes_39 : decode cX6_comes 39 = .ok (.iload_n 1, 1) := by decide +kernel
theorem dX6_comes_40 : decode cX6_comes 40 = .ok (.invokevirtual 104, 3) := by decide +kernel
theorem dX6_comes_43 : decode cX6_comes 43 = .ok (.iastore, 1) := by decide +kernel
theorem dX6_comes_44 : decode cX6_comes 44 = .ok (.aload_n 0, 1) := by decide +kernel
theorem dX6_comes_45 : decode cX6_comes 45 = .ok (.getfield 28, 3) := by decide +kernel
theorem dX6_comes_48 : decode cX6_comes 48 = .ok (.iload_n 3, 1) := by decide +kernel
theorem dX6_comes_49 : decode cX6_comes 49 = .ok (.aload_n 0, 1) := by decide +kernel
theorem dX6_comes_50 : decode cX6_comes 50 = .ok (.iload_n 3, 1) := by decide +kernel
theorem dX6_comes_51 : decode cX6_comes 51 = .ok (.iload_n 1, 1) := by decide +kernel
theorem dX6_comes_52 : decode cX6_comes 52 = .ok (.invokevirtual 107, 3) := by decide +kernel
theorem dX6_comes_55 : decode cX6_comes 55 = .ok (.iastore, 1) := by decide +kernel
theorem dX6_comes_56 : decode cX6_comes 56 = .ok (.aload_n 0, 1) := by decide +kernel
theorem dX6_comes_57 : decode cX6_comes 57 = .ok (.getfield 31, 3) := by decide +kernel
theorem dX6_comes_60 : decode cX6_comes 60 = .ok (.iload_n 3, 1) := by decide +kernel
theorem dX6_comes_61 : decode cX6_comes 61 = .ok (.aload_n 0, 1) := by decide +kernel
theorem dX6_comes_62 : decode cX6_comes 62 = .ok (.iload_n 3, 1) := by decide +kernel
theorem dX6_comes_63 : decode cX6_comes 63 = .ok (.iconst 2, 1) := by decide +kernel
theorem dX6_comes_64 : decode cX6_comes 64 = .ok (.invokevirtual 46, 3) := by decide +kernel
theorem dX6_comes_67 : decode cX6_comes 67 = .ok (.iastore, 1) := by decide +kernel
theorem dX6_comes_68 : decode cX6_comes 68 = .ok (.iinc 3 1, 3) := by decide +kernel
theorem dX6_comes_71 : decode cX6_comes 71 = .ok (.goto (-69), 3) := by decide +kernel
theorem dX6_comes_74 : decode cX6_comes 74 = .ok (.aload_n 0, 1) := by decide +kernel
theorem dX6_comes_75 : decode cX6_comes 75 = .ok (.iload_n 2, 1) := by decide +kernel
theorem dX6_comes_76 : decode cX6_comes 76 = .ok (.invokevirtual 110, 3) := by decide +kernel
theorem dX6_comes_79 : decode cX6_comes 79 = .ok (.istore_n 3, 1) := by decide +kernel
theorem dX6_comes_80 : decode cX6_comes 80 = .ok (.iconst 0, 1) := by decide +kernel
theorem dX6_comes_81 : decode cX6_comes 81 = .ok (.istore 4, 2) := by decide +kernel
theorem dX6_comes_83 : decode cX6_comes 83 = .ok (.iload 4, 2) := by decide +kernel
theorem dX6_comes_85 : decode cX6_comes 85 = .ok (.aload_n 0, 1) := by decide +kernel
theorem dX6_comes_86 : decode cX6_comes 86 = .ok (.getfield 7, 3) := by decide +kernel
theorem dX6_comes_89 : decode cX6_comes 89 = .ok (.bipush 7, 2) := by decide +kernel
theorem dX6_comes_91 : decode cX6_comes 91 = .ok (.iaload, 1) := by decide +kernel
theorem dX6_comes_92 : decode cX6_comes 92 = .ok (.if_icmp .ge 114, 3) := by decide +kernel
theorem dX6_comes_95 : decode cX6_comes 95 = .ok (.aload_n 0, 1) := by decide +kernel
theorem dX6_comes_96 : decode cX6_comes 96 = .ok (.getfield 22, 3) := by decide +kernel
theorem dX6_comes_99 : decode cX6_comes 99 = .ok (.iload 4, 2) := by decide +kernel
theorem dX6_comes_101 : decode cX6_comes 101 = .ok (.iaload, 1) := by decide +kernel
theorem dX6_comes_102 : decode cX6_comes 102 = .ok (.iconst 1, 1) := by decide +kernel
theorem dX6_comes_103 : decode cX6_comes 103 = .ok (.if_icmp .ne 64, 3) := by decide +kernel
theorem dX6_comes_106 : decode cX6_comes 106 = .ok (.aload_n 0, 1) := by decide +kernel
theorem dX6_comes_107 : decode cX6_comes 107 = .ok (.getfield 25, 3) := by decide +kernel
theorem dX6_comes_110 : decode cX6_comes 110 = .ok (.iload 4, 2) := by decide +kernel
theorem dX6_comes_112 : decode cX6_comes 112 = .ok (.iaload, 1) := by decide +kernel
theorem dX6_comes_113 : decode cX6_comes 113 = .ok (.iload_n 2, 1) := by decide +kernel
theorem dX6_comes_114 : decode cX6_comes 114 = .ok (.if_icmp .ne 7, 3) := by decide +kernel
theorem dX6_comes_117 : decode cX6_comes 117 = .ok (.iconst 1, 1) := by decide +kernel
theorem dX6_comes_118 : decode cX6_comes 118 = .ok (.goto 4, 3) := by decide +kernel
theorem dX6_comes_121 : decode cX6_comes 121 = .ok (.iconst 0, 1) := by decide +kernel
theorem dX6_comes_122 : decode cX6_comes 122 = .ok (.istore 5, 2) := by decide +kernel
theorem dX6_comes_124 : decode cX6_comes 124 = .ok (.aload_n 0, 1) := by decide +kernel
theorem dX6_comes_125 : decode cX6_comes 125 = .ok (.iload 4, 2) := by decide +kernel
theorem dX6_comes_127 : decode cX6_comes 127 = .ok (.iload 5, 2) := by decide +kernel
theorem dX6_comes_129 : decode cX6_comes 129 = .ok (.iconst 1, 1) := by decide +kernel
theorem dX6_comes_130 : decode cX6_comes 130 = .ok (.if_icmp .ne 7, 3) := by decide +kernel
theorem dX6_comes_133 : decode cX6_comes 133 = .ok (.iconst 5, 1) := by decide +kernel
theorem dX6_comes_134 : decode cX6_comes 134 = .ok (.goto 5, 3) := by decide +kernel
theorem dX6_comes_137 : decode cX6_comes 137 = .ok (.bipush 6, 2) := by decide +kernel
theorem dX6_comes_139 : decode cX6_comes 139 = .ok (.iconst 1, 1) := by decide +kernel
theorem dX6_comes_140 : decode cX6_comes 140 = .ok (.invokevirtual 94, 3) := by decide +kernel
theorem dX6_comes_143 : decode cX6_comes 143 = .ok (.aload_n 0, 1) := by decide +kernel
theorem dX6_comes_144 : decode cX6_comes 144 = .ok (.iload 4, 2) := by decide +kernel
theorem dX6_comes_146 : decode cX6_comes 146 = .ok (.bipush 7, 2) := by decide +kernel
theorem dX6_comes_148 : decode cX6_comes 148 = .ok (.iconst 2, 1) := by decide +kernel
theorem dX6_comes_149 : decode cX6_comes 149 = .ok (.aload_n 0, 1) := by decide +kernel
theorem dX6_comes_150 : decode cX6_comes 150 = .ok (.iload 4, 2) := by decide +kernel
theorem dX6_comes_152 : decode cX6_comes 152 = .ok (.bipush 7, 2) := by decide +kernel
theorem dX6_comes_154 : decode cX6_comes 154 = .ok (.invokevirtual 46, 3) := by decide +kernel
theorem dX6_comes_157 : decode cX6_comes 157 = .ok (.imul, 1) := by decide +kernel
theorem dX6_comes_158 : decode cX6_comes 158 = .ok (.ldc 113, 2) := by decide +kernel
theorem dX6_comes_160 : decode cX6_comes 160 = .ok (.irem, 1) := by decide +kernel
theorem dX6_comes_161 : decode cX6_comes 161 = .ok (.iload 5, 2) := by decide +kernel
theorem dX6_comes_163 : decode cX6_comes 163 = .ok (.iadd, 1) := by decide +kernel
theorem dX6_comes_164 : decode cX6_comes 164 = .ok (.invokevirtual 82, 3) := by decide +kernel
theorem dX6_comes_167 : decode cX6_comes 167 = .ok (.aload_n 0, 1) := by decide +kernel
theorem dX6_comes_168 : decode cX6_comes 168 = .ok (.iload 4, 2) := by decide +kernel
theorem dX6_comes_170 : decode cX6_comes 170 = .ok (.bipush 8, 2) := by decide +kernel
theorem dX6_comes_172 : decode cX6_comes 172 = .ok (.aload_n 0, 1) := by decide +kernel
theorem dX6_comes_173 : decode cX6_comes 173 = .ok (.getfield 31, 3) := by decide +kernel
theorem dX6_comes_176 : decode cX6_comes 176 = .ok (.iload 4, 2) := by decide +kernel
theorem dX6_comes_178 : decode cX6_comes 178 = .ok (.iaload, 1) := by decide +kernel
theorem dX6_comes_179 : decode cX6_comes 179 = .ok (.ifCond .le 17, 3) := by decide +kernel
theorem dX6_comes_182 : decode cX6_comes 182 = .ok (.aload_n 0, 1) := by decide +kernel
theorem dX6_comes_183 : decode cX6_comes 183 = .ok (.iload 4, 2) := by decide +kernel
theorem dX6_comes_185 : decode cX6_comes 185 = .ok (.iconst 2, 1) := by decide +kernel
theorem dX6_comes_186 : decode cX6_comes 186 = .ok (.invokevirtual 46, 3) := by decide +kernel
theorem dX6_comes_189 : decode cX6_comes 189 = .ok (.ifCond .ne 7, 3) := by decide +kernel
theorem dX6_comes_192 : decode cX6_comes 192 = .ok (.iconst 1, 1) := by decide +kernel
theorem dX6_comes_193 : decode cX6_comes 193 = .ok (.goto 4, 3) := by decide +kernel
theorem dX6_comes_196 : decode cX6_comes 196 = .ok (.iconst 0, 1) := by decide +kernel
theorem dX6_comes_197 : decode cX6_comes 197 = .ok (.invokevirtual 94, 3) := by decide +kernel
theorem dX6_comes_200 : decode cX6_comes 200 = .ok (.iinc 4 1, 3) := by decide +kernel
theorem dX6_comes_203 : decode cX6_comes 203 = .ok (.goto (-120), 3) := by decide +kernel
theorem dX6_comes_206 : decode cX6_comes 206 = .ok (.iconst 0, 1) := by decide +kernel
theorem dX6_comes_207 : decode cX6_comes 207 = .ok (.istore 4, 2) := by decide +kernel
theorem dX6_comes_209 : decode cX6_comes 209 = .ok (.iload 4, 2) := by decide +kernel
theorem dX6_comes_211 : decode cX6_comes 211 = .ok (.aload_n 0, 1) := by decide +kernel
theorem dX6_comes_212 : decode cX6_comes 212 = .ok (.getfield 7, 3) := by decide +kernel
theorem dX6_comes_215 : decode cX6_comes 215 = .ok (.bipush 7, 2) := by decide +kernel
theorem dX6_comes_217 : decode cX6_comes 217 = .ok (.iaload, 1) := by decide +kernel
theorem dX6_comes_218 : decode cX6_comes 218 = .ok (.if_icmp .ge 26, 3) := by decide +kernel
theorem dX6_comes_221 : decode cX6_comes 221 = .ok (.aload_n 0, 1) := by decide +kernel
theorem dX6_comes_222 : decode cX6_comes 222 = .ok (.iload 4, 2) := by decide +kernel
theorem dX6_comes_224 : decode cX6_comes 224 = .ok (.invokevirtual 50, 3) := by decide +kernel
theorem dX6_comes_227 : decode cX6_comes 227 = .ok (.ifCond .eq 11, 3) := by decide +kernel
theorem dX6_comes_230 : decode cX6_comes 230 = .ok (.aload_n 0, 1) := by decide +kernel
theorem dX6_comes_231 : decode cX6_comes 231 = .ok (.iload 4, 2) := by decide +kernel
theorem dX6_comes_233 : decode cX6_comes 233 = .ok (.iload_n 1, 1) := by decide +kernel
theorem dX6_comes_234 : decode cX6_comes 234 = .ok (.iload_n 2, 1) := by decide +kernel
theorem dX6_comes_235 : decode cX6_comes 235 = .ok (.invokevirtual 114, 3) := by decide +kernel
theorem dX6_comes_238 : decode cX6_comes 238 = .ok (.iinc 4 1, 3) := by decide +kernel
theorem dX6_comes_241 : decode cX6_comes 241 = .ok (.goto (-32), 3) := by decide +kernel
theorem dX6_comes_244 : decode cX6_comes 244 = .ok (.aload_n 0, 1) := by decide +kernel
theorem dX6_comes_245 : decode cX6_comes 245 = .ok (.getfield 7, 3) := by decide +kernel
theorem dX6_comes_248 : decode cX6_comes 248 = .ok (.iconst 3, 1) := by decide +kernel
theorem dX6_comes_249 : decode cX6_comes 249 = .ok (.iconst 2, 1) := by decide +kernel
theorem dX6_comes_250 : decode cX6_comes 250 = .ok (.aload_n 0, 1) := by decide +kernel
theorem dX6_comes_251 : decode cX6_comes 251 = .ok (.getfield 7, 3) := by decide +kernel
theorem dX6_comes_254 : decode cX6_comes 254 = .ok (.iconst 3, 1) := by decide +kernel
theorem dX6_comes_255 : decode cX6_comes 255 = .ok (.iaload, 1) := by decide +kernel
theorem dX6_comes_256 : decode cX6_comes 256 = .ok (.imul, 1) := by decide +kernel
theorem dX6_comes_257 : decode cX6_comes 257 = .ok (.iload_n 2, 1) := by decide +kernel
theorem dX6_comes_258 : decode cX6_comes 258 = .ok (.iadd, 1) := by decide +kernel
theorem dX6_comes_259 : decode cX6_comes 259 = .ok (.sipush 256, 3) := by decide +kernel
theorem dX6_comes_262 : decode cX6_comes 262 = .ok (.irem, 1) := by decide +kernel
theorem dX6_comes_263 : decode cX6_comes 263 = .ok (.iastore, 1) := by decide +kernel
theorem dX6_comes_264 : decode cX6_comes 264 = .ok (.aload_n 0, 1) := by decide +kernel
theorem dX6_comes_265 : decode cX6_comes 265 = .ok (.getfield 7, 3) := by decide +kernel
theorem dX6_comes_268 : decode cX6_comes 268 = .ok (.bipush 9, 2) := by decide +kernel
theorem dX6_comes_270 : decode cX6_comes 270 = .ok (.iload_n 1, 1) := by decide +kernel
theorem dX6_comes_271 : decode cX6_comes 271 = .ok (.iadd, 1) := by decide +kernel
theorem dX6_comes_272 : decode cX6_comes 272 = .ok (.iconst 1, 1) := by decide +kernel
theorem dX6_comes_273 : decode cX6_comes 273 = .ok (.iastore, 1) := by decide +kernel
theorem dX6_comes_274 : decode cX6_comes 274 = .ok (.aload_n 0, 1) := by decide +kernel
theorem dX6_comes_275 : decode cX6_comes 275 = .ok (.getfield 7, 3) := by decide +kernel
theorem dX6_comes_278 : decode cX6_comes 278 = .ok (.iconst 5, 1) := by decide +kernel
theorem dX6_comes_279 : decode cX6_comes 279 = .ok (.dup2, 1) := by decide +kernel
theorem dX6_comes_280 : decode cX6_comes 280 = .ok (.iaload, 1) := by decide +kernel
theorem dX6_comes_281 : decode cX6_comes 281 = .ok (.iconst 1, 1) := by decide +kernel
theorem dX6_comes_282 : decode cX6_comes 282 = .ok (.iadd, 1) := by decide +kernel
theorem dX6_comes_283 : decode cX6_comes 283 = .ok (.iastore, 1) := by decide +kernel
theorem dX6_comes_284 : decode cX6_comes 284 = .ok (.iload_n 3, 1) := by decide +kernel
theorem dX6_comes_285 : decode cX6_comes 285 = .ok (.ireturn, 1) := by decide +kernel
theorem dX6_branch_0 : decode cX6_branch 0 = .ok (.iload_n 1, 1) := by decide +kernel
theorem dX6_branch_1 : decode cX6_branch 1 = .ok (.invokestatic 117, 3) := by decide +kernel
theorem dX6_branch_4 : decode cX6_branch 4 = .ok (.ifCond .eq 10, 3) := by decide +kernel
theorem dX6_branch_7 : decode cX6_branch 7 = .ok (.iload_n 2, 1) := by decide +kernel
theorem dX6_branch_8 : decode cX6_branch 8 = .ok (.invokestatic 120, 3) := by decide +kernel
theorem dX6_branch_11 : decode cX6_branch 11 = .ok (.ifCond .ne 6, 3) := by decide +kernel
theorem dX6_branch_14 : decode cX6_branch 14 = .ok (.ldc 77, 2) := by decide +kernel
theorem dX6_branch_16 : decode cX6_branch 16 = .ok (.ireturn, 1) := by decide +kernel
theorem dX6_branch_17 : decode cX6_branch 17 = .ok (.aload_n 0, 1) := by decide +kernel
theorem dX6_branch_18 : decode cX6_branch 18 = .ok (.invokevirtual 78, 3) := by decide +kernel
theorem dX6_branch_21 : decode cX6_branch 21 = .ok (.aload_n 0, 1) := by decide +kernel
theorem dX6_branch_22 : decode cX6_branch 22 = .ok (.iload_n 1, 1) := by decide +kernel
theorem dX6_branch_23 : decode cX6_branch 23 = .ok (.iload_n 2, 1) := by decide +kernel
theorem dX6_branch_24 : decode cX6_branch 24 = .ok (.invokevirtual 123, 3) := by decide +kernel
theorem dX6_branch_27 : decode cX6_branch 27 = .ok (.ireturn, 1) := by decide +kernel
theorem dX6_owes_0 : decode cX6_owes 0 = .ok (.iconst 0, 1) := by decide +kernel
theorem dX6_owes_1 : decode cX6_owes 1 = .ok (.istore_n 3, 1) := by decide +kernel
theorem dX6_owes_2 : decode cX6_owes 2 = .ok (.iconst 0, 1) := by decide +kernel
theorem dX6_owes_3 : decode cX6_owes 3 = .ok (.istore 4, 2) := by decide +kernel
theorem dX6_owes_5 : decode cX6_owes 5 = .ok (.iload 4, 2) := by decide +kernel
theorem dX6_owes_7 : decode cX6_owes 7 = .ok (.aload_n 0, 1) := by decide +kernel
theorem dX6_owes_8 : decode cX6_owes 8 = .ok (.getfield 7, 3) := by decide +kernel
theorem dX6_owes_11 : decode cX6_owes 11 = .ok (.bipush 8, 2) := by decide +kernel
theorem dX6_owes_13 : decode cX6_owes 13 = .ok (.iaload, 1) := by decide +kernel
theorem dX6_owes_14 : decode cX6_owes 14 = .ok (.if_icmp .ge 34, 3) := by decide +kernel
theorem dX6_owes_17 : decode cX6_owes 17 = .ok (.iload_n 3, 1) := by decide +kernel
theorem dX6_owes_18 : decode cX6_owes 18 = .ok (.aload_n 0, 1) := by decide +kernel
theorem dX6_owes_19 : decode cX6_owes 19 = .ok (.iload 4, 2) := by decide +kernel
theorem dX6_owes_21 : decode cX6_owes 21 = .ok (.iload_n 2, 1) := by decide +kernel
theorem dX6_owes_22 : decode cX6_owes 22 = .ok (.invokevirtual 97, 3) := by decide +kernel
theorem dX6_owes_25 : decode cX6_owes 25 = .ok (.iload_n 1, 1) := by decide +kernel
theorem dX6_owes_26 : decode cX6_owes 26 = .ok (.if_icmp .ne 13, 3) := by decide +kernel
theorem dX6_owes_29 : decode cX6_owes 29 = .ok (.aload_n 0, 1) := by decide +kernel
theorem dX6_owes_30 : decode cX6_owes 30 = .ok (.iload 4, 2) := by decide +kernel
theorem dX6_owes_32 : decode cX6_owes 32 = .ok (.iconst 2, 1) := by decide +kernel
theorem dX6_owes_33 : decode cX6_owes 33 = .ok (.invokevirtual 97, 3) := by decide +kernel
theorem dX6_owes_36 : decode cX6_owes 36 = .ok (.goto 4, 3) := by decide +kernel
theorem dX6_owes_39 : decode cX6_owes 39 = .ok (.iconst 0, 1) := by decide +kernel
theorem dX6_owes_40 : decode cX6_owes 40 = .ok (.iadd, 1) := by decide +kernel
theorem dX6_owes_41 : decode cX6_owes 41 = .ok (.istore_n 3, 1) := by decide +kernel
theorem dX6_owes_42 : decode cX6_owes 42 = .ok (.iinc 4 1, 3) := by decide +kernel
theorem dX6_owes_45 : decode cX6_owes 45 = .ok (.goto (-40), 3) := by decide +kernel
theorem dX6_owes_48 : decode cX6_owes 48 = .ok (.iload_n 3, 1) := by decide +kernel
theorem dX6_owes_49 : decode cX6_owes 49 = .ok (.ireturn, 1) := by decide +kernel
theorem dX6_oracleOf_0 : decode cX6_oracleOf 0 = .ok (.aload_n 0, 1) := by decide +kernel
theorem dX6_oracleOf_1 : decode cX6_oracleOf 1 = .ok (.iload_n 1, 1) := by decide +kernel
theorem dX6_oracleOf_2 : decode cX6_oracleOf 2 = .ok (.invokevirtual 86, 3) := by decide +kernel
theorem dX6_oracleOf_5 : decode cX6_oracleOf 5 = .ok (.ifCond .eq 13, 3) := by decide +kernel
theorem dX6_oracleOf_8 : decode cX6_oracleOf 8 = .ok (.iload_n 2, 1) := by decide +kernel
theorem dX6_oracleOf_9 : decode cX6_oracleOf 9 = .ok (.iconst 0, 1) := by decide +kernel
theorem dX6_oracleOf_10 : decode cX6_oracleOf 10 = .ok (.bipush 10, 2) := by decide +kernel
theorem dX6_oracleOf_12 : decode cX6_oracleOf 12 = .ok (.invokestatic 42, 3) := by decide +kernel
theorem dX6_oracleOf_15 : decode cX6_oracleOf 15 = .ok (.ifCond .ne 6, 3) := by decide +kernel
theorem dX6_oracleOf_18 : decode cX6_oracleOf 18 = .ok (.ldc 77, 2) := by decide +kernel
theorem dX6_oracleOf_20 : decode cX6_oracleOf 20 = .ok (.ireturn, 1) := by decide +kernel
theorem dX6_oracleOf_21 : decode cX6_oracleOf 21 = .ok (.iload_n 2, 1) := by decide +kernel
theorem dX6_oracleOf_22 : decode cX6_oracleOf 22 = .ok (.bipush 9, 2) := by decide +kernel
theorem dX6_oracleOf_24 : decode cX6_oracleOf 24 = .ok (.if_icmp .eq 9, 3) := by decide +kernel
theorem dX6_oracleOf_27 : decode cX6_oracleOf 27 = .ok (.iload_n 2, 1) := by decide +kernel
theorem dX6_oracleOf_28 : decode cX6_oracleOf 28 = .ok (.bipush 10, 2) := by decide +kernel
theorem dX6_oracleOf_30 : decode cX6_oracleOf 30 = .ok (.if_icmp .ne 20, 3) := by decide +kernel
theorem dX6_oracleOf_33 : decode cX6_oracleOf 33 = .ok (.aload_n 0, 1) := by decide +kernel
theorem dX6_oracleOf_34 : decode cX6_oracleOf 34 = .ok (.iload_n 1, 1) := by decide +kernel
theorem dX6_oracleOf_35 : decode cX6_oracleOf 35 = .ok (.iload_n 2, 1) := by decide +kernel
theorem dX6_oracleOf_36 : decode cX6_oracleOf 36 = .ok (.bipush 9, 2) := by decide +kernel
theorem dX6_oracleOf_38 : decode cX6_oracleOf 38 = .ok (.if_icmp .ne 7, 3) := by decide +kernel
theorem dX6_oracleOf_41 : decode cX6_oracleOf 41 = .ok (.iconst 1, 1) := by decide +kernel
theorem dX6_oracleOf_42 : decode cX6_oracleOf 42 = .ok (.goto 4, 3) := by decide +kernel
theorem dX6_oracleOf_45 : decode cX6_oracleOf 45 = .ok (.iconst 0, 1) := by decide +kernel
theorem dX6_oracleOf_46 : decode cX6_oracleOf 46 = .ok (.invokevirtual 126, 3) := by decide +kernel
theorem dX6_oracleOf_49 : decode cX6_oracleOf 49 = .ok (.ireturn, 1) := by decide +kernel
theorem dX6_oracleOf_50 : decode cX6_oracleOf 50 = .ok (.iload_n 2, 1) := by decide +kernel
theorem dX6_oracleOf_51 : decode cX6_oracleOf 51 = .ok (.iconst 3, 1) := by decide +kernel
theorem dX6_oracleOf_52 : decode cX6_oracleOf 52 = .ok (.if_icmp .eq 8, 3) := by decide +kernel
theorem dX6_oracleOf_55 : decode cX6_oracleOf 55 = .ok (.iload_n 2, 1) := by decide +kernel
theorem dX6_oracleOf_56 : decode cX6_oracleOf 56 = .ok (.iconst 4, 1) := by decide +kernel
theorem dX6_oracleOf_57 : decode cX6_oracleOf 57 = .ok (.if_icmp .ne 16, 3) := by decide +kernel
theorem dX6_oracleOf_60 : decode cX6_oracleOf 60 = .ok (.aload_n 0, 1) := by decide +kernel
theorem dX6_oracleOf_61 : decode cX6_oracleOf 61 = .ok (.iload_n 1, 1) := by decide +kernel
theorem dX6_oracleOf_62 : decode cX6_oracleOf 62 = .ok (.invokevirtual 61, 3) := by decide +kernel
theorem dX6_oracleOf_65 : decode cX6_oracleOf 65 = .ok (.ifCond .ne 8, 3) := by decide +kernel
theorem dX6_oracleOf_68 : decode cX6_oracleOf 68 = .ok (.ldc 129, 2) := by decide +kernel
theorem dX6_oracleOf_70 : decode cX6_oracleOf 70 = .ok (.goto 9, 3) := by decide +kernel
theorem dX6_oracleOf_73 : decode cX6_oracleOf 73 = .ok (.aload_n 0, 1) := by decide +kernel
theorem dX6_oracleOf_74 : decode cX6_oracleOf 74 = .ok (.iload_n 1, 1) := by decide +kernel
theorem dX6_oracleOf_75 : decode cX6_oracleOf 75 = .ok (.iload_n 2, 1) := by decide +kernel
theorem dX6_oracleOf_76 : decode cX6_oracleOf 76 = .ok (.invokevirtual 46, 3) := by decide +kernel
theorem dX6_oracleOf_79 : decode cX6_oracleOf 79 = .ok (.ireturn, 1) := by decide +kernel
theorem dX6_counter_0 : decode cX6_counter 0 = .ok (.aload_n 0, 1) := by decide +kernel
theorem dX6_counter_1 : decode cX6_counter 1 = .ok (.iload_n 1, 1) := by decide +kernel
theorem dX6_counter_2 : decode cX6_counter 2 = .ok (.invokevirtual 86, 3) := by decide +kernel
theorem dX6_counter_5 : decode cX6_counter 5 = .ok (.ifCond .eq 7, 3) := by decide +kernel
theorem dX6_counter_8 : decode cX6_counter 8 = .ok (.iload_n 2, 1) := by decide +kernel
theorem dX6_counter_9 : decode cX6_counter 9 = .ok (.ifCond .ge 6, 3) := by decide +kernel
theorem dX6_counter_12 : decode cX6_counter 12 = .ok (.ldc 77, 2) := by decide +kernel
theorem dX6_counter_14 : decode cX6_counter 14 = .ok (.ireturn, 1) := by decide +kernel
theorem dX6_counter_15 : decode cX6_counter 15 = .ok (.iload_n 2, 1) := by decide +kernel
theorem dX6_counter_16 : decode cX6_counter 16 = .ok (.aload_n 0, 1) := by decide +kernel
theorem dX6_counter_17 : decode cX6_counter 17 = .ok (.iload_n 1, 1) := by decide +kernel
theorem dX6_counter_18 : decode cX6_counter 18 = .ok (.invokevirtual 54, 3) := by decide +kernel
theorem dX6_counter_21 : decode cX6_counter 21 = .ok (.if_icmp .ge 15, 3) := by decide +kernel
theorem dX6_counter_24 : decode cX6_counter 24 = .ok (.aload_n 0, 1) := by decide +kernel
theorem dX6_counter_25 : decode cX6_counter 25 = .ok (.iload_n 1, 1) := by decide +kernel
theorem dX6_counter_26 : decode cX6_counter 26 = .ok (.bipush 10, 2) := by decide +kernel
theorem dX6_counter_28 : decode cX6_counter 28 = .ok (.iload_n 2, 1) := by decide +kernel
theorem dX6_counter_29 : decode cX6_counter 29 = .ok (.iadd, 1) := by decide +kernel
theorem dX6_counter_30 : decode cX6_counter 30 = .ok (.invokevirtual 46, 3) := by decide +kernel
theorem dX6_counter_33 : decode cX6_counter 33 = .ok (.goto 5, 3) := by decide +kernel
theorem dX6_counter_36 : decode cX6_counter 36 = .ok (.ldc 129, 2) := by decide +kernel
theorem dX6_counter_38 : decode cX6_counter 38 = .ok (.ireturn, 1) := by decide +kernel
theorem dX6_loanOf_0 : decode cX6_loanOf 0 = .ok (.iload_n 1, 1) := by decide +kernel
theorem dX6_loanOf_1 : decode cX6_loanOf 1 = .ok (.iconst 0, 1) := by decide +kernel
theorem dX6_loanOf_2 : decode cX6_loanOf 2 = .ok (.aload_n 0, 1) := by decide +kernel
theorem dX6_loanOf_3 : decode cX6_loanOf 3 = .ok (.getfield 7, 3) := by decide +kernel
theorem dX6_loanOf_6 : decode cX6_loanOf 6 = .ok (.bipush 8, 2) := by decide +kernel
theorem dX6_loanOf_8 : decode cX6_loanOf 8 = .ok (.iaload, 1) := by decide +kernel
theorem dX6_loanOf_9 : decode cX6_loanOf 9 = .ok (.iconst 1, 1) := by decide +kernel
theorem dX6_loanOf_10 : decode cX6_loanOf 10 = .ok (.isub, 1) := by decide +kernel
theorem dX6_loanOf_11 : decode cX6_loanOf 11 = .ok (.invokestatic 42, 3) := by decide +kernel
theorem dX6_loanOf_14 : decode cX6_loanOf 14 = .ok (.ifCond .eq 21, 3) := by decide +kernel
theorem dX6_loanOf_17 : decode cX6_loanOf 17 = .ok (.iload_n 2, 1) := by decide +kernel
theorem dX6_loanOf_18 : decode cX6_loanOf 18 = .ok (.iconst 0, 1) := by decide +kernel
theorem dX6_loanOf_19 : decode cX6_loanOf 19 = .ok (.iconst 2, 1) := by decide +kernel
theorem dX6_loanOf_20 : decode cX6_loanOf 20 = .ok (.invokestatic 42, 3) := by decide +kernel
theorem dX6_loanOf_23 : decode cX6_loanOf 23 = .ok (.ifCond .eq 12, 3) := by decide +kernel
theorem dX6_loanOf_26 : decode cX6_loanOf 26 = .ok (.aload_n 0, 1) := by decide +kernel
theorem dX6_loanOf_27 : decode cX6_loanOf 27 = .ok (.iload_n 1, 1) := by decide +kernel
theorem dX6_loanOf_28 : decode cX6_loanOf 28 = .ok (.iload_n 2, 1) := by decide +kernel
theorem dX6_loanOf_29 : decode cX6_loanOf 29 = .ok (.invokevirtual 97, 3) := by decide +kernel
theorem dX6_loanOf_32 : decode cX6_loanOf 32 = .ok (.goto 5, 3) := by decide +kernel
theorem dX6_loanOf_35 : decode cX6_loanOf 35 = .ok (.ldc 77, 2) := by decide +kernel
theorem dX6_loanOf_37 : decode cX6_loanOf 37 = .ok (.ireturn, 1) := by decide +kernel
theorem dX6_aliases_0 : decode cX6_aliases 0 = .ok (.aload_n 0, 1) := by decide +kernel
theorem dX6_aliases_1 : decode cX6_aliases 1 = .ok (.iload_n 1, 1) := by decide +kernel
theorem dX6_aliases_2 : decode cX6_aliases 2 = .ok (.invokevirtual 86, 3) := by decide +kernel
theorem dX6_aliases_5 : decode cX6_aliases 5 = .ok (.ifCond .eq 10, 3) := by decide +kernel
theorem dX6_aliases_8 : decode cX6_aliases 8 = .ok (.iload_n 2, 1) := by decide +kernel
theorem dX6_aliases_9 : decode cX6_aliases 9 = .ok (.invokestatic 117, 3) := by decide +kernel
theorem dX6_aliases_12 : decode cX6_aliases 12 = .ok (.ifCond .ne 6, 3) := by decide +kernel
theorem dX6_aliases_15 : decode cX6_aliases 15 = .ok (.ldc 77, 2) := by decide +kernel
theorem dX6_aliases_17 : decode cX6_aliases 17 = .ok (.ireturn, 1) := by decide +kernel
theorem dX6_aliases_18 : decode cX6_aliases 18 = .ok (.aload_n 0, 1) := by decide +kernel
theorem dX6_aliases_19 : decode cX6_aliases 19 = .ok (.iload_n 1, 1) := by decide +kernel
theorem dX6_aliases_20 : decode cX6_aliases 20 = .ok (.invokevirtual 50, 3) := by decide +kernel
theorem dX6_aliases_23 : decode cX6_aliases 23 = .ok (.ifCond .ne 6, 3) := by decide +kernel
theorem dX6_aliases_26 : decode cX6_aliases 26 = .ok (.ldc 129, 2) := by decide +kernel
theorem dX6_aliases_28 : decode cX6_aliases 28 = .ok (.ireturn, 1) := by decide +kernel
theorem dX6_aliases_29 : decode cX6_aliases 29 = .ok (.iconst 0, 1) := by decide +kernel
theorem dX6_aliases_30 : decode cX6_aliases 30 = .ok (.istore_n 3, 1) := by decide +kernel
theorem dX6_aliases_31 : decode cX6_aliases 31 = .ok (.iconst 0, 1) := by decide +kernel
theorem dX6_aliases_32 : decode cX6_aliases 32 = .ok (.istore 4, 2) := by decide +kernel
theorem dX6_aliases_34 : decode cX6_aliases 34 = .ok (.iload 4, 2) := by decide +kernel
theorem dX6_aliases_36 : decode cX6_aliases 36 = .ok (.bipush 64, 2) := by decide +kernel
theorem dX6_aliases_38 : decode cX6_aliases 38 = .ok (.if_icmp .ge 53, 3) := by decide +kernel
theorem dX6_aliases_41 : decode cX6_aliases 41 = .ok (.iload_n 3, 1) := by decide +kernel
theorem dX6_aliases_42 : decode cX6_aliases 42 = .ok (.aload_n 0, 1) := by decide +kernel
theorem dX6_aliases_43 : decode cX6_aliases 43 = .ok (.getfield 7, 3) := by decide +kernel
theorem dX6_aliases_46 : decode cX6_aliases 46 = .ok (.bipush 9, 2) := by decide +kernel
theorem dX6_aliases_48 : decode cX6_aliases 48 = .ok (.iload 4, 2) := by decide +kernel
theorem dX6_aliases_50 : decode cX6_aliases 50 = .ok (.iadd, 1) := by decide +kernel
theorem dX6_aliases_51 : decode cX6_aliases 51 = .ok (.iaload, 1) := by decide +kernel
theorem dX6_aliases_52 : decode cX6_aliases 52 = .ok (.iconst 1, 1) := by decide +kernel
theorem dX6_aliases_53 : decode cX6_aliases 53 = .ok (.if_icmp .ne 29, 3) := by decide +kernel
theorem dX6_aliases_56 : decode cX6_aliases 56 = .ok (.iload 4, 2) := by decide +kernel
theorem dX6_aliases_58 : decode cX6_aliases 58 = .ok (.iload_n 2, 1) := by decide +kernel
theorem dX6_aliases_59 : decode cX6_aliases 59 = .ok (.if_icmp .eq 23, 3) := by decide +kernel
theorem dX6_aliases_62 : decode cX6_aliases 62 = .ok (.aload_n 0, 1) := by decide +kernel
theorem dX6_aliases_63 : decode cX6_aliases 63 = .ok (.iload_n 1, 1) := by decide +kernel
theorem dX6_aliases_64 : decode cX6_aliases 64 = .ok (.iload 4, 2) := by decide +kernel
theorem dX6_aliases_66 : decode cX6_aliases 66 = .ok (.invokevirtual 58, 3) := by decide +kernel
theorem dX6_aliases_69 : decode cX6_aliases 69 = .ok (.aload_n 0, 1) := by decide +kernel
theorem dX6_aliases_70 : decode cX6_aliases 70 = .ok (.iload_n 1, 1) := by decide +kernel
theorem dX6_aliases_71 : decode cX6_aliases 71 = .ok (.iload_n 2, 1) := by decide +kernel
theorem dX6_aliases_72 : decode cX6_aliases 72 = .ok (.invokevirtual 58, 3) := by decide +kernel
theorem dX6_aliases_75 : decode cX6_aliases 75 = .ok (.if_icmp .ne 7, 3) := by decide +kernel
theorem dX6_aliases_78 : decode cX6_aliases 78 = .ok (.iconst 1, 1) := by decide +kernel
theorem dX6_aliases_79 : decode cX6_aliases 79 = .ok (.goto 4, 3) := by decide +kernel
theorem dX6_aliases_82 : decode cX6_aliases 82 = .ok (.iconst 0, 1) := by decide +kernel
theorem dX6_aliases_83 : decode cX6_aliases 83 = .ok (.iadd, 1) := by decide +kernel
theorem dX6_aliases_84 : decode cX6_aliases 84 = .ok (.istore_n 3, 1) := by decide +kernel
theorem dX6_aliases_85 : decode cX6_aliases 85 = .ok (.iinc 4 1, 3) := by decide +kernel
theorem dX6_aliases_88 : decode cX6_aliases 88 = .ok (.goto (-54), 3) := by decide +kernel
theorem dX6_aliases_91 : decode cX6_aliases 91 = .ok (.iload_n 3, 1) := by decide +kernel
theorem dX6_aliases_92 : decode cX6_aliases 92 = .ok (.ireturn, 1) := by decide +kernel
theorem dX6_floatBits_0 : decode cX6_floatBits 0 = .ok (.iload_n 0, 1) := by decide +kernel
theorem dX6_floatBits_1 : decode cX6_floatBits 1 = .ok (.ifCond .ne 5, 3) := by decide +kernel
theorem dX6_floatBits_4 : decode cX6_floatBits 4 = .ok (.iconst 0, 1) := by decide +kernel
theorem dX6_floatBits_5 : decode cX6_floatBits 5 = .ok (.ireturn, 1) := by decide +kernel
theorem dX6_floatBits_6 : decode cX6_floatBits 6 = .ok (.iload_n 0, 1) := by decide +kernel
theorem dX6_floatBits_7 : decode cX6_floatBits 7 = .ok (.i2l, 1) := by decide +kernel
theorem dX6_floatBits_8 : decode cX6_floatBits 8 = .ok (.lstore_n 2, 1) := by decide +kernel
theorem dX6_floatBits_9 : decode cX6_floatBits 9 = .ok (.iconst 0, 1) := by decide +kernel
theorem dX6_floatBits_10 : decode cX6_floatBits 10 = .ok (.istore 4, 2) := by decide +kernel
theorem dX6_floatBits_12 : decode cX6_floatBits 12 = .ok (.lload_n 2, 1) := by decide +kernel
theorem dX6_floatBits_13 : decode cX6_floatBits 13 = .ok (.iload_n 1, 1) := by decide +kernel
theorem dX6_floatBits_14 : decode cX6_floatBits 14 = .ok (.i2l, 1) := by decide +kernel
theorem dX6_floatBits_15 : decode cX6_floatBits 15 = .ok (.bipush 23, 2) := by decide +kernel
theorem dX6_floatBits_17 : decode cX6_floatBits 17 = .ok (.lshl, 1) := by decide +kernel
theorem dX6_floatBits_18 : decode cX6_floatBits 18 = .ok (.lcmp, 1) := by decide +kernel
theorem dX6_floatBits_19 : decode cX6_floatBits 19 = .ok (.ifCond .ge 15, 3) := by decide +kernel
theorem dX6_floatBits_22 : decode cX6_floatBits 22 = .ok (.ldc2_w 130, 3) := by decide +kernel
theorem dX6_floatBits_25 : decode cX6_floatBits 25 = .ok (.lload_n 2, 1) := by decide +kernel
theorem dX6_floatBits_26 : decode cX6_floatBits 26 = .ok (.lmul, 1) := by decide +kernel
theorem dX6_floatBits_27 : decode cX6_floatBits 27 = .ok (.lstore_n 2, 1) := by decide +kernel
theorem dX6_floatBits_28 : decode cX6_floatBits 28 = .ok (.iinc 4 1, 3) := by decide +kernel
theorem dX6_floatBits_31 : decode cX6_floatBits 31 = .ok (.goto (-19), 3) := by decide +kernel
theorem dX6_floatBits_34 : decode cX6_floatBits 34 = .ok (.lload_n 2, 1) := by decide +kernel
theorem dX6_floatBits_35 : decode cX6_floatBits 35 = .ok (.iload_n 1, 1) := by decide +kernel
theorem dX6_floatBits_36 : decode cX6_floatBits 36 = .ok (.i2l, 1) := by decide +kernel
theorem dX6_floatBits_37 : decode cX6_floatBits 37 = .ok (.ldiv, 1) := by decide +kernel
theorem dX6_floatBits_38 : decode cX6_floatBits 38 = .ok (.lstore 5, 2) := by decide +kernel
theorem dX6_floatBits_40 : decode cX6_floatBits 40 = .ok (.ldc2_w 130, 3) := by decide +kernel
theorem dX6_floatBits_43 : decode cX6_floatBits 43 = .ok (.lload_n 2, 1) := by decide +kernel
theorem dX6_floatBits_44 : decode cX6_floatBits 44 = .ok (.iload_n 1, 1) := by decide +kernel
theorem dX6_floatBits_45 : decode cX6_floatBits 45 = .ok (.i2l, 1) := by decide +kernel
theorem dX6_floatBits_46 : decode cX6_floatBits 46 = .ok (.lrem, 1) := by decide +kernel
theorem dX6_floatBits_47 : decode cX6_floatBits 47 = .ok (.lmul, 1) := by decide +kernel
theorem dX6_floatBits_48 : decode cX6_floatBits 48 = .ok (.lstore 7, 2) := by decide +kernel
theorem dX6_floatBits_50 : decode cX6_floatBits 50 = .ok (.lload 5, 2) := by decide +kernel
theorem dX6_floatBits_52 : decode cX6_floatBits 52 = .ok (.lload 7, 2) := by decide +kernel
theorem dX6_floatBits_54 : decode cX6_floatBits 54 = .ok (.iload_n 1, 1) := by decide +kernel
theorem dX6_floatBits_55 : decode cX6_floatBits 55 = .ok (.i2l, 1) := by decide +kernel
theorem dX6_floatBits_56 : decode cX6_floatBits 56 = .ok (.lcmp, 1) := by decide +kernel
theorem dX6_floatBits_57 : decode cX6_floatBits 57 = .ok (.ifCond .gt 22, 3) := by decide +kernel
theorem dX6_floatBits_60 : decode cX6_floatBits 60 = .ok (.lload 7, 2) := by decide +kernel
theorem dX6_floatBits_62 : decode cX6_floatBits 62 = .ok (.iload_n 1, 1) := by decide +kernel
theorem dX6_floatBits_63 : decode cX6_floatBits 63 = .ok (.i2l, 1) := by decide +kernel
theorem dX6_floatBits_64 : decode cX6_floatBits 64 = .ok (.lcmp, 1) := by decide +kernel
theorem dX6_floatBits_65 : decode cX6_floatBits 65 = .ok (.ifCond .ne 18, 3) := by decide +kernel
theorem dX6_floatBits_68 : decode cX6_floatBits 68 = .ok (.lload 5, 2) := by decide +kernel
theorem dX6_floatBits_70 : decode cX6_floatBits 70 = .ok (.ldc2_w 130, 3) := by decide +kernel
theorem dX6_floatBits_73 : decode cX6_floatBits 73 = .ok (.lrem, 1) := by decide +kernel
theorem dX6_floatBits_74 : decode cX6_floatBits 74 = .ok (.lconst 1, 1) := by decide +kernel
theorem dX6_floatBits_75 : decode cX6_floatBits 75 = .ok (.lcmp, 1) := by decide +kernel
theorem dX6_floatBits_76 : decode cX6_floatBits 76 = .ok (.ifCond .ne 7, 3) := by decide +kernel
theorem dX6_floatBits_79 : decode cX6_floatBits 79 = .ok (.lconst 1, 1) := by decide +kernel
theorem dX6_floatBits_80 : decode cX6_floatBits 80 = .ok (.goto 4, 3) := by decide +kernel
theorem dX6_floatBits_83 : decode cX6_floatBits 83 = .ok (.lconst 0, 1) := by decide +kernel
theorem dX6_floatBits_84 : decode cX6_floatBits 84 = .ok (.ladd, 1) := by decide +kernel
theorem dX6_floatBits_85 : decode cX6_floatBits 85 = .ok (.lstore 5, 2) := by decide +kernel
theorem dX6_floatBits_87 : decode cX6_floatBits 87 = .ok (.sipush 150, 3) := by decide +kernel
theorem dX6_floatBits_90 : decode cX6_floatBits 90 = .ok (.iload 4, 2) := by decide +kernel
theorem dX6_floatBits_92 : decode cX6_floatBits 92 = .ok (.isub, 1) := by decide +kernel
theorem dX6_floatBits_93 : decode cX6_floatBits 93 = .ok (.bipush 23, 2) := by decide +kernel
theorem dX6_floatBits_95 : decode cX6_floatBits 95 = .ok (.ishl, 1) := by decide +kernel
theorem dX6_floatBits_96 : decode cX6_floatBits 96 = .ok (.lload 5, 2) := by decide +kernel
theorem dX6_floatBits_98 : decode cX6_floatBits 98 = .ok (.ldc2_w 132, 3) := by decide +kernel
theorem dX6_floatBits_101 : decode cX6_floatBits 101 = .ok (.lsub, 1) := by decide +kernel
theorem dX6_floatBits_102 : decode cX6_floatBits 102 = .ok (.l2i, 1) := by decide +kernel
theorem dX6_floatBits_103 : decode cX6_floatBits 103 = .ok (.iadd, 1) := by decide +kernel
theorem dX6_floatBits_104 : decode cX6_floatBits 104 = .ok (.ireturn, 1) := by decide +kernel
theorem dX6_share_0 : decode cX6_share 0 = .ok (.aload_n 0, 1) := by decide +kernel
theorem dX6_share_1 : decode cX6_share 1 = .ok (.iload_n 1, 1) := by decide +kernel
theorem dX6_share_2 : decode cX6_share 2 = .ok (.invokevirtual 86, 3) := by decide +kernel
theorem dX6_share_5 : decode cX6_share 5 = .ok (.ifCond .ne 6, 3) := by decide +kernel
theorem dX6_share_8 : decode cX6_share 8 = .ok (.ldc 77, 2) := by decide +kernel
theorem dX6_share_10 : decode cX6_share 10 = .ok (.ireturn, 1) := by decide +kernel
theorem dX6_share_11 : decode cX6_share 11 = .ok (.aload_n 0, 1) := by decide +kernel
theorem dX6_share_12 : decode cX6_share 12 = .ok (.iload_n 1, 1) := by decide +kernel
theorem dX6_share_13 : decode cX6_share 13 = .ok (.iconst 5, 1) := by decide +kernel
theorem dX6_share_14 : decode cX6_share 14 = .ok (.invokevirtual 46, 3) := by decide +kernel
theorem dX6_share_17 : decode cX6_share 17 = .ok (.aload_n 0, 1) := by decide +kernel
theorem dX6_share_18 : decode cX6_share 18 = .ok (.iload_n 1, 1) := by decide +kernel
theorem dX6_share_19 : decode cX6_share 19 = .ok (.bipush 6, 2) := by decide +kernel
theorem dX6_share_21 : decode cX6_share 21 = .ok (.invokevirtual 46, 3) := by decide +kernel
theorem dX6_share_24 : decode cX6_share 24 = .ok (.iadd, 1) := by decide +kernel
theorem dX6_share_25 : decode cX6_share 25 = .ok (.istore_n 2, 1) := by decide +kernel
theorem dX6_share_26 : decode cX6_share 26 = .ok (.iload_n 2, 1) := by decide +kernel
theorem dX6_share_27 : decode cX6_share 27 = .ok (.ifCond .ne 8, 3) := by decide +kernel
theorem dX6_share_30 : decode cX6_share 30 = .ok (.ldc 129, 2) := by decide +kernel
theorem dX6_share_32 : decode cX6_share 32 = .ok (.goto 13, 3) := by decide +kernel
theorem dX6_share_35 : decode cX6_share 35 = .ok (.aload_n 0, 1) := by decide +kernel
theorem dX6_share_36 : decode cX6_share 36 = .ok (.iload_n 1, 1) := by decide +kernel
theorem dX6_share_37 : decode cX6_share 37 = .ok (.iconst 5, 1) := by decide +kernel
theorem dX6_share_38 : decode cX6_share 38 = .ok (.invokevirtual 46, 3) := by decide +kernel
theorem dX6_share_41 : decode cX6_share 41 = .ok (.iload_n 2, 1) := by decide +kernel
theorem dX6_share_42 : decode cX6_share 42 = .ok (.invokestatic 134, 3) := by decide +kernel
theorem dX6_share_45 : decode cX6_share 45 = .ok (.ireturn, 1) := by decide +kernel
theorem dX6_richer_0 : decode cX6_richer 0 = .ok (.iconst 0, 1) := by decide +kernel
theorem dX6_richer_1 : decode cX6_richer 1 = .ok (.istore_n 2, 1) := by decide +kernel
theorem dX6_richer_2 : decode cX6_richer 2 = .ok (.iconst 0, 1) := by decide +kernel
theorem dX6_richer_3 : decode cX6_richer 3 = .ok (.istore_n 3, 1) := by decide +kernel
theorem dX6_richer_4 : decode cX6_richer 4 = .ok (.iload_n 3, 1) := by decide +kernel
theorem dX6_richer_5 : decode cX6_richer 5 = .ok (.aload_n 0, 1) := by decide +kernel
theorem dX6_richer_6 : decode cX6_richer 6 = .ok (.getfield 7, 3) := by decide +kernel
theorem dX6_richer_9 : decode cX6_richer 9 = .ok (.bipush 7, 2) := by decide +kernel
theorem dX6_richer_11 : decode cX6_richer 11 = .ok (.iaload, 1) := by decide +kernel
theorem dX6_richer_12 : decode cX6_richer 12 = .ok (.if_icmp .ge 47, 3) := by decide +kernel
theorem dX6_richer_15 : decode cX6_richer 15 = .ok (.aload_n 0, 1) := by decide +kernel
theorem dX6_richer_16 : decode cX6_richer 16 = .ok (.iload_n 3, 1) := by decide +kernel
theorem dX6_richer_17 : decode cX6_richer 17 = .ok (.iconst 2, 1) := by decide +kernel
theorem dX6_richer_18 : decode cX6_richer 18 = .ok (.invokevirtual 46, 3) := by decide +kernel
theorem dX6_richer_21 : decode cX6_richer 21 = .ok (.aload_n 0, 1) := by decide +kernel
theorem dX6_richer_22 : decode cX6_richer 22 = .ok (.iload_n 1, 1) := by decide +kernel
theorem dX6_richer_23 : decode cX6_richer 23 = .ok (.iconst 2, 1) := by decide +kernel
theorem dX6_richer_24 : decode cX6_richer 24 = .ok (.invokevirtual 46, 3) := by decide +kernel
theorem dX6_richer_27 : decode cX6_richer 27 = .ok (.isub, 1) := by decide +kernel
theorem dX6_richer_28 : decode cX6_richer 28 = .ok (.istore 4, 2) := by decide +kernel
theorem dX6_richer_30 : decode cX6_richer 30 = .ok (.iload_n 2, 1) := by decide +kernel
theorem dX6_richer_31 : decode cX6_richer 31 = .ok (.iload 4, 2) := by decide +kernel
theorem dX6_richer_33 : decode cX6_richer 33 = .ok (.ifCond .gt 13, 3) := by decide +kernel
theorem dX6_richer_36 : decode cX6_richer 36 = .ok (.iload 4, 2) := by decide +kernel
theorem dX6_richer_38 : decode cX6_richer 38 = .ok (.ifCond .ne 12, 3) := by decide +kernel
theorem dX6_richer_41 : decode cX6_richer 41 = .ok (.iload_n 3, 1) := by decide +kernel
theorem dX6_richer_42 : decode cX6_richer 42 = .ok (.iload_n 1, 1) := by decide +kernel
theorem dX6_richer_43 : decode cX6_richer 43 = .ok (.if_icmp .ge 7, 3) := by decide +kernel
theorem dX6_richer_46 : decode cX6_richer 46 = .ok (.iconst 1, 1) := by decide +kernel
theorem dX6_richer_47 : decode cX6_richer 47 = .ok (.goto 4, 3) := by decide +kernel
theorem dX6_richer_50 : decode cX6_richer 50 = .ok (.iconst 0, 1) := by decide +kernel
theorem dX6_richer_51 : decode cX6_richer 51 = .ok (.iadd, 1) := by decide +kernel
theorem dX6_richer_52 : decode cX6_richer 52 = .ok (.istore_n 2, 1) := by decide +kernel
theorem dX6_richer_53 : decode cX6_richer 53 = .ok (.iinc 3 1, 3) := by decide +kernel
theorem dX6_richer_56 : decode cX6_richer 56 = .ok (.goto (-52), 3) := by decide +kernel
theorem dX6_richer_59 : decode cX6_richer 59 = .ok (.iload_n 2, 1) := by decide +kernel
theorem dX6_richer_60 : decode cX6_richer 60 = .ok (.ireturn, 1) := by decide +kernel
theorem dX6_rich_0 : decode cX6_rich 0 = .ok (.iload_n 1, 1) := by decide +kernel
theorem dX6_rich_1 : decode cX6_rich 1 = .ok (.ifCond .ge 6, 3) := by decide +kernel
theorem dX6_rich_4 : decode cX6_rich 4 = .ok (.ldc 77, 2) := by decide +kernel
theorem dX6_rich_6 : decode cX6_rich 6 = .ok (.ireturn, 1) := by decide +kernel
theorem dX6_rich_7 : decode cX6_rich 7 = .ok (.ldc 129, 2) := by decide +kernel
theorem dX6_rich_9 : decode cX6_rich 9 = .ok (.istore_n 2, 1) := by decide +kernel
theorem dX6_rich_10 : decode cX6_rich 10 = .ok (.iconst 0, 1) := by decide +kernel
theorem dX6_rich_11 : decode cX6_rich 11 = .ok (.istore_n 3, 1) := by decide +kernel
theorem dX6_rich_12 : decode cX6_rich 12 = .ok (.iload_n 3, 1) := by decide +kernel
theorem dX6_rich_13 : decode cX6_rich 13 = .ok (.aload_n 0, 1) := by decide +kernel
theorem dX6_rich_14 : decode cX6_rich 14 = .ok (.getfield 7, 3) := by decide +kernel
theorem dX6_rich_17 : decode cX6_rich 17 = .ok (.bipush 7, 2) := by decide +kernel
theorem dX6_rich_19 : decode cX6_rich 19 = .ok (.iaload, 1) := by decide +kernel
theorem dX6_rich_20 : decode cX6_rich 20 = .ok (.if_icmp .ge 24, 3) := by decide +kernel
theorem dX6_rich_23 : decode cX6_rich 23 = .ok (.aload_n 0, 1) := by decide +kernel
theorem dX6_rich_24 : decode cX6_rich 24 = .ok (.iload_n 3, 1) := by decide +kernel
theorem dX6_rich_25 : decode cX6_rich 25 = .ok (.invokevirtual 137, 3) := by decide +kernel
theorem dX6_rich_28 : decode cX6_rich 28 = .ok (.iload_n 1, 1) := by decide +kernel
theorem dX6_rich_29 : decode cX6_rich 29 = .ok (.if_icmp .ne 7, 3) := by decide +kernel
theorem dX6_rich_32 : decode cX6_rich 32 = .ok (.iload_n 3, 1) := by decide +kernel
theorem dX6_rich_33 : decode cX6_rich 33 = .ok (.goto 4, 3) := by decide +kernel
theorem dX6_rich_36 : decode cX6_rich 36 = .ok (.iload_n 2, 1) := by decide +kernel
theorem dX6_rich_37 : decode cX6_rich 37 = .ok (.istore_n 2, 1) := by decide +kernel
theorem dX6_rich_38 : decode cX6_rich 38 = .ok (.iinc 3 1, 3) := by decide +kernel
theorem dX6_rich_41 : decode cX6_rich 41 = .ok (.goto (-29), 3) := by decide +kernel
theorem dX6_rich_44 : decode cX6_rich 44 = .ok (.iload_n 2, 1) := by decide +kernel
theorem dX6_rich_45 : decode cX6_rich 45 = .ok (.ireturn, 1) := by decide +kernel
theorem dX6_says_0 : decode cX6_says 0 = .ok (.aload_n 0, 1) := by decide +kernel
theorem dX6_says_1 : decode cX6_says 1 = .ok (.iload_n 1, 1) := by decide +kernel
theorem dX6_says_2 : decode cX6_says 2 = .ok (.invokevirtual 86, 3) := by decide +kernel
theorem dX6_says_5 : decode cX6_says 5 = .ok (.ifCond .eq 19, 3) := by decide +kernel
theorem dX6_says_8 : decode cX6_says 8 = .ok (.iload_n 2, 1) := by decide +kernel
theorem dX6_says_9 : decode cX6_says 9 = .ok (.invokestatic 117, 3) := by decide +kernel
theorem dX6_says_12 : decode cX6_says 12 = .ok (.ifCond .eq 12, 3) := by decide +kernel
theorem dX6_says_15 : decode cX6_says 15 = .ok (.aload_n 0, 1) := by decide +kernel
theorem dX6_says_16 : decode cX6_says 16 = .ok (.iload_n 1, 1) := by decide +kernel
theorem dX6_says_17 : decode cX6_says 17 = .ok (.iload_n 2, 1) := by decide +kernel
theorem dX6_says_18 : decode cX6_says 18 = .ok (.invokevirtual 104, 3) := by decide +kernel
theorem dX6_says_21 : decode cX6_says 21 = .ok (.goto 5, 3) := by decide +kernel
theorem dX6_says_24 : decode cX6_says 24 = .ok (.ldc 77, 2) := by decide +kernel
theorem dX6_says_26 : decode cX6_says 26 = .ok (.ireturn, 1) := by decide +kernel
theorem dX6_stake_0 : decode cX6_stake 0 = .ok (.aload_n 0, 1) := by decide +kernel
theorem dX6_stake_1 : decode cX6_stake 1 = .ok (.iload_n 1, 1) := by decide +kernel
theorem dX6_stake_2 : decode cX6_stake 2 = .ok (.invokevirtual 86, 3) := by decide +kernel
theorem dX6_stake_5 : decode cX6_stake 5 = .ok (.ifCond .eq 19, 3) := by decide +kernel
theorem dX6_stake_8 : decode cX6_stake 8 = .ok (.iload_n 2, 1) := by decide +kernel
theorem dX6_stake_9 : decode cX6_stake 9 = .ok (.invokestatic 117, 3) := by decide +kernel
theorem dX6_stake_12 : decode cX6_stake 12 = .ok (.ifCond .eq 12, 3) := by decide +kernel
theorem dX6_stake_15 : decode cX6_stake 15 = .ok (.aload_n 0, 1) := by decide +kernel
theorem dX6_stake_16 : decode cX6_stake 16 = .ok (.iload_n 1, 1) := by decide +kernel
theorem dX6_stake_17 : decode cX6_stake 17 = .ok (.iload_n 2, 1) := by decide +kernel
theorem dX6_stake_18 : decode cX6_stake 18 = .ok (.invokevirtual 107, 3) := by decide +kernel
theorem dX6_stake_21 : decode cX6_stake 21 = .ok (.goto 5, 3) := by decide +kernel
theorem dX6_stake_24 : decode cX6_stake 24 = .ok (.ldc 77, 2) := by decide +kernel
theorem dX6_stake_26 : decode cX6_stake 26 = .ok (.ireturn, 1) := by decide +kernel
theorem dX6_odds_0 : decode cX6_odds 0 = .ok (.iload_n 1, 1) := by decide +kernel
theorem dX6_odds_1 : decode cX6_odds 1 = .ok (.invokestatic 117, 3) := by decide +kernel
theorem dX6_odds_4 : decode cX6_odds 4 = .ok (.ifCond .ne 6, 3) := by decide +kernel
theorem dX6_odds_7 : decode cX6_odds 7 = .ok (.ldc 77, 2) := by decide +kernel
theorem dX6_odds_9 : decode cX6_odds 9 = .ok (.ireturn, 1) := by decide +kernel
theorem dX6_odds_10 : decode cX6_odds 10 = .ok (.iconst 0, 1) := by decide +kernel
theorem dX6_odds_11 : decode cX6_odds 11 = .ok (.istore_n 2, 1) := by decide +kernel
theorem dX6_odds_12 : decode cX6_odds 12 = .ok (.iconst 0, 1) := by decide +kernel
theorem dX6_odds_13 : decode cX6_odds 13 = .ok (.istore_n 3, 1) := by decide +kernel
theorem dX6_odds_14 : decode cX6_odds 14 = .ok (.iconst 0, 1) := by decide +kernel
theorem dX6_odds_15 : decode cX6_odds 15 = .ok (.istore 4, 2) := by decide +kernel
theorem dX6_odds_17 : decode cX6_odds 17 = .ok (.iload 4, 2) := by decide +kernel
theorem dX6_odds_19 : decode cX6_odds 19 = .ok (.aload_n 0, 1) := by decide +kernel
theorem dX6_odds_20 : decode cX6_odds 20 = .ok (.getfield 7, 3) := by decide +kernel
theorem dX6_odds_23 : decode cX6_odds 23 = .ok (.bipush 7, 2) := by decide +kernel
theorem dX6_odds_25 : decode cX6_odds 25 = .ok (.iaload, 1) := by decide +kernel
theorem dX6_odds_26 : decode cX6_odds 26 = .ok (.if_icmp .ge 44, 3) := by decide +kernel
theorem dX6_odds_29 : decode cX6_odds 29 = .ok (.iload_n 2, 1) := by decide +kernel
theorem dX6_odds_30 : decode cX6_odds 30 = .ok (.aload_n 0, 1) := by decide +kernel
theorem dX6_odds_31 : decode cX6_odds 31 = .ok (.iload 4, 2) := by decide +kernel
theorem dX6_odds_33 : decode cX6_odds 33 = .ok (.iload_n 1, 1) := by decide +kernel
theorem dX6_odds_34 : decode cX6_odds 34 = .ok (.invokevirtual 107, 3) := by decide +kernel
theorem dX6_odds_37 : decode cX6_odds 37 = .ok (.iadd, 1) := by decide +kernel
theorem dX6_odds_38 : decode cX6_odds 38 = .ok (.istore_n 2, 1) := by decide +kernel
theorem dX6_odds_39 : decode cX6_odds 39 = .ok (.iload_n 3, 1) := by decide +kernel
theorem dX6_odds_40 : decode cX6_odds 40 = .ok (.aload_n 0, 1) := by decide +kernel
theorem dX6_odds_41 : decode cX6_odds 41 = .ok (.iload 4, 2) := by decide +kernel
theorem dX6_odds_43 : decode cX6_odds 43 = .ok (.iload_n 1, 1) := by decide +kernel
theorem dX6_odds_44 : decode cX6_odds 44 = .ok (.invokevirtual 104, 3) := by decide +kernel
theorem dX6_odds_47 : decode cX6_odds 47 = .ok (.iconst 1, 1) := by decide +kernel
theorem dX6_odds_48 : decode cX6_odds 48 = .ok (.if_icmp .ne 13, 3) := by decide +kernel
theorem dX6_odds_51 : decode cX6_odds 51 = .ok (.aload_n 0, 1) := by decide +kernel
theorem dX6_odds_52 : decode cX6_odds 52 = .ok (.iload 4, 2) := by decide +kernel
theorem dX6_odds_54 : decode cX6_odds 54 = .ok (.iload_n 1, 1) := by decide +kernel
theorem dX6_odds_55 : decode cX6_odds 55 = .ok (.invokevirtual 107, 3) := by decide +kernel
theorem dX6_odds_58 : decode cX6_odds 58 = .ok (.goto 4, 3) := by decide +kernel
theorem dX6_odds_61 : decode cX6_odds 61 = .ok (.iconst 0, 1) := by decide +kernel
theorem dX6_odds_62 : decode cX6_odds 62 = .ok (.iadd, 1) := by decide +kernel
theorem dX6_odds_63 : decode cX6_odds 63 = .ok (.istore_n 3, 1) := by decide +kernel
theorem dX6_odds_64 : decode cX6_odds 64 = .ok (.iinc 4 1, 3) := by decide +kernel
theorem dX6_odds_67 : decode cX6_odds 67 = .ok (.goto (-50), 3) := by decide +kernel
theorem dX6_odds_70 : decode cX6_odds 70 = .ok (.iload_n 2, 1) := by decide +kernel
theorem dX6_odds_71 : decode cX6_odds 71 = .ok (.ifCond .ne 8, 3) := by decide +kernel
theorem dX6_odds_74 : decode cX6_odds 74 = .ok (.ldc 129, 2) := by decide +kernel
theorem dX6_odds_76 : decode cX6_odds 76 = .ok (.goto 8, 3) := by decide +kernel
theorem dX6_odds_79 : decode cX6_odds 79 = .ok (.iload_n 3, 1) := by decide +kernel
theorem dX6_odds_80 : decode cX6_odds 80 = .ok (.iload_n 2, 1) := by decide +kernel
theorem dX6_odds_81 : decode cX6_odds 81 = .ok (.invokestatic 134, 3) := by decide +kernel
theorem dX6_odds_84 : decode cX6_odds 84 = .ok (.ireturn, 1) := by decide +kernel
theorem dX6_gain_0 : decode cX6_gain 0 = .ok (.aload_n 0, 1) := by decide +kernel
theorem dX6_gain_1 : decode cX6_gain 1 = .ok (.iload_n 1, 1) := by decide +kernel
theorem dX6_gain_2 : decode cX6_gain 2 = .ok (.invokevirtual 86, 3) := by decide +kernel
theorem dX6_gain_5 : decode cX6_gain 5 = .ok (.ifCond .eq 17, 3) := by decide +kernel
theorem dX6_gain_8 : decode cX6_gain 8 = .ok (.iload_n 2, 1) := by decide +kernel
theorem dX6_gain_9 : decode cX6_gain 9 = .ok (.invokestatic 117, 3) := by decide +kernel
theorem dX6_gain_12 : decode cX6_gain 12 = .ok (.ifCond .eq 10, 3) := by decide +kernel
theorem dX6_gain_15 : decode cX6_gain 15 = .ok (.iload_n 3, 1) := by decide +kernel
theorem dX6_gain_16 : decode cX6_gain 16 = .ok (.invokestatic 120, 3) := by decide +kernel
theorem dX6_gain_19 : decode cX6_gain 19 = .ok (.ifCond .ne 6, 3) := by decide +kernel
theorem dX6_gain_22 : decode cX6_gain 22 = .ok (.ldc 77, 2) := by decide +kernel
theorem dX6_gain_24 : decode cX6_gain 24 = .ok (.ireturn, 1) := by decide +kernel
theorem dX6_gain_25 : decode cX6_gain 25 = .ok (.aload_n 0, 1) := by decide +kernel
theorem dX6_gain_26 : decode cX6_gain 26 = .ok (.getfield 7, 3) := by decide +kernel
theorem dX6_gain_29 : decode cX6_gain 29 = .ok (.iconst 0, 1) := by decide +kernel
theorem dX6_gain_30 : decode cX6_gain 30 = .ok (.aload_n 0, 1) := by decide +kernel
theorem dX6_gain_31 : decode cX6_gain 31 = .ok (.getfield 13, 3) := by decide +kernel
theorem dX6_gain_34 : decode cX6_gain 34 = .ok (.iconst 0, 1) := by decide +kernel
theorem dX6_gain_35 : decode cX6_gain 35 = .ok (.invokestatic 38, 3) := by decide +kernel
theorem dX6_gain_38 : decode cX6_gain 38 = .ok (.aload_n 0, 1) := by decide +kernel
theorem dX6_gain_39 : decode cX6_gain 39 = .ok (.iload_n 2, 1) := by decide +kernel
theorem dX6_gain_40 : decode cX6_gain 40 = .ok (.iload_n 3, 1) := by decide +kernel
theorem dX6_gain_41 : decode cX6_gain 41 = .ok (.invokevirtual 123, 3) := by decide +kernel
theorem dX6_gain_44 : decode cX6_gain 44 = .ok (.pop, 1) := by decide +kernel
theorem dX6_gain_45 : decode cX6_gain 45 = .ok (.aload_n 0, 1) := by decide +kernel
theorem dX6_gain_46 : decode cX6_gain 46 = .ok (.iload_n 1, 1) := by decide +kernel
theorem dX6_gain_47 : decode cX6_gain 47 = .ok (.iconst 2, 1) := by decide +kernel
theorem dX6_gain_48 : decode cX6_gain 48 = .ok (.invokevirtual 46, 3) := by decide +kernel
theorem dX6_gain_51 : decode cX6_gain 51 = .ok (.aload_n 0, 1) := by decide +kernel
theorem dX6_gain_52 : decode cX6_gain 52 = .ok (.getfield 13, 3) := by decide +kernel
theorem dX6_gain_55 : decode cX6_gain 55 = .ok (.bipush 73, 2) := by decide +kernel
theorem dX6_gain_57 : decode cX6_gain 57 = .ok (.bipush 42, 2) := by decide +kernel
theorem dX6_gain_59 : decode cX6_gain 59 = .ok (.iload_n 1, 1) := by decide +kernel
theorem dX6_gain_60 : decode cX6_gain 60 = .ok (.imul, 1) := by decide +kernel
theorem dX6_gain_61 : decode cX6_gain 61 = .ok (.iadd, 1) := by decide +kernel
theorem dX6_gain_62 : decode cX6_gain 62 = .ok (.iconst 2, 1) := by decide +kernel
theorem dX6_gain_63 : decode cX6_gain 63 = .ok (.iadd, 1) := by decide +kernel
theorem dX6_gain_64 : decode cX6_gain 64 = .ok (.iaload, 1) := by decide +kernel
theorem dX6_gain_65 : decode cX6_gain 65 = .ok (.isub, 1) := by decide +kernel
theorem dX6_gain_66 : decode cX6_gain 66 = .ok (.istore 4, 2) := by decide +kernel
theorem dX6_gain_68 : decode cX6_gain 68 = .ok (.aload_n 0, 1) := by decide +kernel
theorem dX6_gain_69 : decode cX6_gain 69 = .ok (.getfield 13, 3) := by decide +kernel
theorem dX6_gain_72 : decode cX6_gain 72 = .ok (.iconst 0, 1) := by decide +kernel
theorem dX6_gain_73 : decode cX6_gain 73 = .ok (.aload_n 0, 1) := by decide +kernel
theorem dX6_gain_74 : decode cX6_gain 74 = .ok (.getfield 7, 3) := by decide +kernel
theorem dX6_gain_77 : decode cX6_gain 77 = .ok (.iconst 0, 1) := by decide +kernel
theorem dX6_gain_78 : decode cX6_gain 78 = .ok (.invokestatic 38, 3) := by decide +kernel
theorem dX6_gain_81 : decode cX6_gain 81 = .ok (.iload 4, 2) := by decide +kernel
theorem dX6_gain_83 : decode cX6_gain 83 = .ok (.ireturn, 1) := by decide +kernel
theorem dX6_doom_0 : decode cX6_doom 0 = .ok (.aload_n 0, 1) := by decide +kernel
theorem dX6_doom_1 : decode cX6_doom 1 = .ok (.iload_n 1, 1) := by decide +kernel
theorem dX6_doom_2 : decode cX6_doom 2 = .ok (.invokevirtual 86, 3) := by decide +kernel
theorem dX6_doom_5 : decode cX6_doom 5 = .ok (.ifCond .eq 17, 3) := by decide +kernel
theorem dX6_doom_8 : decode cX6_doom 8 = .ok (.iload_n 2, 1) := by decide +kernel
theorem dX6_doom_9 : decode cX6_doom 9 = .ok (.invokestatic 117, 3) := by decide +kernel
theorem dX6_doom_12 : decode cX6_doom 12 = .ok (.ifCond .eq 10, 3) := by decide +kernel
theorem dX6_doom_15 : decode cX6_doom 15 = .ok (.iload_n 3, 1) := by decide +kernel
theorem dX6_doom_16 : decode cX6_doom 16 = .ok (.invokestatic 120, 3) := by decide +kernel
theorem dX6_doom_19 : decode cX6_doom 19 = .ok (.ifCond .ne 6, 3) := by decide +kernel
theorem dX6_doom_22 : decode cX6_doom 22 = .ok (.ldc 77, 2) := by decide +kernel
theorem dX6_doom_24 : decode cX6_doom 24 = .ok (.ireturn, 1) := by decide +kernel
theorem dX6_doom_25 : decode cX6_doom 25 = .ok (.aload_n 0, 1) := by decide +kernel
theorem dX6_doom_26 : decode cX6_doom 26 = .ok (.getfield 7, 3) := by decide +kernel
theorem dX6_doom_29 : decode cX6_doom 29 = .ok (.iconst 0, 1) := by decide +kernel
theorem dX6_doom_30 : decode cX6_doom 30 = .ok (.aload_n 0, 1) := by decide +kernel
theorem dX6_doom_31 : decode cX6_doom 31 = .ok (.getfield 13, 3) := by decide +kernel
theorem dX6_doom_34 : decode cX6_doom 34 = .ok (.iconst 0, 1) := by decide +kernel
theorem dX6_doom_35 : decode cX6_doom 35 = .ok (.invokestatic 38, 3) := by decide +kernel
theorem dX6_doom_38 : decode cX6_doom 38 = .ok (.iconst 0, 1) := by decide +kernel
theorem dX6_doom_39 : decode cX6_doom 39 = .ok (.istore 4, 2) := by decide +kernel
theorem dX6_doom_41 : decode cX6_doom 41 = .ok (.iload 4, 2) := by decide +kernel
theorem dX6_doom_43 : decode cX6_doom 43 = .ok (.bipush 100, 2) := by decide +kernel
theorem dX6_doom_45 : decode cX6_doom 45 = .ok (.if_icmp .ge 25, 3) := by decide +kernel
theorem dX6_doom_48 : decode cX6_doom 48 = .ok (.aload_n 0, 1) := by decide +kernel
theorem dX6_doom_49 : decode cX6_doom 49 = .ok (.iload_n 1, 1) := by decide +kernel
theorem dX6_doom_50 : decode cX6_doom 50 = .ok (.iconst 2, 1) := by decide +kernel
theorem dX6_doom_51 : decode cX6_doom 51 = .ok (.invokevirtual 46, 3) := by decide +kernel
theorem dX6_doom_54 : decode cX6_doom 54 = .ok (.ifCond .le 16, 3) := by decide +kernel
theorem dX6_doom_57 : decode cX6_doom 57 = .ok (.aload_n 0, 1) := by decide +kernel
theorem dX6_doom_58 : decode cX6_doom 58 = .ok (.iload_n 2, 1) := by decide +kernel
theorem dX6_doom_59 : decode cX6_doom 59 = .ok (.iload_n 3, 1) := by decide +kernel
theorem dX6_doom_60 : decode cX6_doom 60 = .ok (.invokevirtual 123, 3) := by decide +kernel
theorem dX6_doom_63 : decode cX6_doom 63 = .ok (.pop, 1) := by decide +kernel
theorem dX6_doom_64 : decode cX6_doom 64 = .ok (.iinc 4 1, 3) := by decide +kernel
theorem dX6_doom_67 : decode cX6_doom 67 = .ok (.goto (-26), 3) := by decide +kernel
theorem dX6_doom_70 : decode cX6_doom 70 = .ok (.aload_n 0, 1) := by decide +kernel
theorem dX6_doom_71 : decode cX6_doom 71 = .ok (.iload_n 1, 1) := by decide +kernel
theorem dX6_doom_72 : decode cX6_doom 72 = .ok (.iconst 2, 1) := by decide +kernel
theorem dX6_doom_73 : decode cX6_doom 73 = .ok (.invokevirtual 46, 3) := by decide +kernel
theorem dX6_doom_76 : decode cX6_doom 76 = .ok (.ifCond .ne 8, 3) := by decide +kernel
theorem dX6_doom_79 : decode cX6_doom 79 = .ok (.iload 4, 2) := by decide +kernel
theorem dX6_doom_81 : decode cX6_doom 81 = .ok (.goto 5, 3) := by decide +kernel
theorem dX6_doom_84 : decode cX6_doom 84 = .ok (.ldc 129, 2) := by decide +kernel
theorem dX6_doom_86 : decode cX6_doom 86 = .ok (.istore 5, 2) := by decide +kernel
theorem dX6_doom_88 : decode cX6_doom 88 = .ok (.aload_n 0, 1) := by decide +kernel
theorem dX6_doom_89 : decode cX6_doom 89 = .ok (.getfield 13, 3) := by decide +kernel
theorem dX6_doom_92 : decode cX6_doom 92 = .ok (.iconst 0, 1) := by decide +kernel
theorem dX6_doom_93 : decode cX6_doom 93 = .ok (.aload_n 0, 1) := by decide +kernel
theorem dX6_doom_94 : decode cX6_doom 94 = .ok (.getfield 7, 3) := by decide +kernel
theorem dX6_doom_97 : decode cX6_doom 97 = .ok (.iconst 0, 1) := by decide +kernel
theorem dX6_doom_98 : decode cX6_doom 98 = .ok (.invokestatic 38, 3) := by decide +kernel
theorem dX6_doom_101 : decode cX6_doom 101 = .ok (.iload 5, 2) := by decide +kernel
theorem dX6_doom_103 : decode cX6_doom 103 = .ok (.ireturn, 1) := by decide +kernel
theorem dX6_bestRow_0 : decode cX6_bestRow 0 = .ok (.aload_n 0, 1) := by decide +kernel
theorem dX6_bestRow_1 : decode cX6_bestRow 1 = .ok (.iload_n 1, 1) := by decide +kernel
theorem dX6_bestRow_2 : decode cX6_bestRow 2 = .ok (.invokevirtual 86, 3) := by decide +kernel
theorem dX6_bestRow_5 : decode cX6_bestRow 5 = .ok (.ifCond .eq 29, 3) := by decide +kernel
theorem dX6_bestRow_8 : decode cX6_bestRow 8 = .ok (.iload_n 2, 1) := by decide +kernel
theorem dX6_bestRow_9 : decode cX6_bestRow 9 = .ok (.invokestatic 117, 3) := by decide +kernel
theorem dX6_bestRow_12 : decode cX6_bestRow 12 = .ok (.ifCond .eq 22, 3) := by decide +kernel
theorem dX6_bestRow_15 : decode cX6_bestRow 15 = .ok (.iload_n 3, 1) := by decide +kernel
theorem dX6_bestRow_16 : decode cX6_bestRow 16 = .ok (.iconst 1, 1) := by decide +kernel
theorem dX6_bestRow_17 : decode cX6_bestRow 17 = .ok (.iconst 5, 1) := by decide +kernel
theorem dX6_bestRow_18 : decode cX6_bestRow 18 = .ok (.invokestatic 42, 3) := by decide +kernel
theorem dX6_bestRow_21 : decode cX6_bestRow 21 = .ok (.ifCond .eq 13, 3) := by decide +kernel
theorem dX6_bestRow_24 : decode cX6_bestRow 24 = .ok (.iload 4, 2) := by decide +kernel
theorem dX6_bestRow_26 : decode cX6_bestRow 26 = .ok (.iconst 0, 1) := by decide +kernel
theorem dX6_bestRow_27 : decode cX6_bestRow 27 = .ok (.iconst 1, 1) := by decide +kernel
theorem dX6_bestRow_28 : decode cX6_bestRow 28 = .ok (.invokestatic 42, 3) := by decide +kernel
theorem dX6_bestRow_31 : decode cX6_bestRow 31 = .ok (.ifCond .ne 6, 3) := by decide +kernel
theorem dX6_bestRow_34 : decode cX6_bestRow 34 = .ok (.ldc 77, 2) := by decide +kernel
theorem dX6_bestRow_36 : decode cX6_bestRow 36 = .ok (.ireturn, 1) := by decide +kernel
theorem dX6_bestRow_37 : decode cX6_bestRow 37 = .ok (.aload_n 0, 1) := by decide +kernel
theorem dX6_bestRow_38 : decode cX6_bestRow 38 = .ok (.getfield 7, 3) := by decide +kernel
theorem dX6_bestRow_41 : decode cX6_bestRow 41 = .ok (.iconst 0, 1) := by decide +kernel
theorem dX6_bestRow_42 : decode cX6_bestRow 42 = .ok (.aload_n 0, 1) := by decide +kernel
theorem dX6_bestRow_43 : decode cX6_bestRow 43 = .ok (.getfield 13, 3) := by decide +kernel
theorem dX6_bestRow_46 : decode cX6_bestRow 46 = .ok (.iconst 0, 1) := by decide +kernel
theorem dX6_bestRow_47 : decode cX6_bestRow 47 = .ok (.invokestatic 38, 3) := by decide +kernel
theorem dX6_bestRow_50 : decode cX6_bestRow 50 = .ok (.iconst 0, 1) := by decide +kernel
theorem dX6_bestRow_51 : decode cX6_bestRow 51 = .ok (.istore 5, 2) := by decide +kernel
theorem dX6_bestRow_53 : decode cX6_bestRow 53 = .ok (.iconst (-1), 1) := by decide +kernel
theorem dX6_bestRow_54 : decode cX6_bestRow 54 = .ok (.istore 6, 2) := by decide +kernel
theorem dX6_bestRow_56 : decode cX6_bestRow 56 = .ok (.iconst 0, 1) := by decide +kernel
theorem dX6_bestRow_57 : decode cX6_bestRow 57 = .ok (.istore 7, 2) := by decide +kernel
theorem dX6_bestRow_59 : decode cX6_bestRow 59 = .ok (.iload 7, 2) := by decide +kernel
theorem dX6_bestRow_61 : decode cX6_bestRow 61 = .ok (.iconst 1, 1) := by decide +kernel
theorem dX6_bestRow_62 : decode cX6_bestRow 62 = .ok (.iload_n 3, 1) := by decide +kernel
theorem dX6_bestRow_63 : decode cX6_bestRow 63 = .ok (.ishl, 1) := by decide +kernel
theorem dX6_bestRow_64 : decode cX6_bestRow 64 = .ok (.if_icmp .ge 95, 3) := by decide +kernel
theorem dX6_bestRow_67 : decode cX6_bestRow 67 = .ok (.iload_n 3, 1) := by decide +kernel
theorem dX6_bestRow_68 : decode cX6_bestRow 68 = .ok (.iconst 1, 1) := by decide +kernel
theorem dX6_bestRow_69 : decode cX6_bestRow 69 = .ok (.isub, 1) := by decide +kernel
theorem dX6_bestRow_70 : decode cX6_bestRow 70 = .ok (.istore 8, 2) := by decide +kernel
theorem dX6_bestRow_72 : decode cX6_bestRow 72 = .ok (.iload 8, 2) := by decide +kernel
theorem dX6_bestRow_74 : decode cX6_bestRow 74 = .ok (.ifCond .lt 22, 3) := by decide +kernel
theorem dX6_bestRow_77 : decode cX6_bestRow 77 = .ok (.aload_n 0, 1) := by decide +kernel
theorem dX6_bestRow_78 : decode cX6_bestRow 78 = .ok (.iload_n 2, 1) := by decide +kernel
theorem dX6_bestRow_79 : decode cX6_bestRow 79 = .ok (.iload 7, 2) := by decide +kernel
theorem dX6_bestRow_81 : decode cX6_bestRow 81 = .ok (.iload 8, 2) := by decide +kernel
theorem dX6_bestRow_83 : decode cX6_bestRow 83 = .ok (.ishr, 1) := by decide +kernel
theorem dX6_bestRow_84 : decode cX6_bestRow 84 = .ok (.iconst 1, 1) := by decide +kernel
theorem dX6_bestRow_85 : decode cX6_bestRow 85 = .ok (.iand, 1) := by decide +kernel
theorem dX6_bestRow_86 : decode cX6_bestRow 86 = .ok (.invokevirtual 123, 3) := by decide +kernel
theorem dX6_bestRow_89 : decode cX6_bestRow 89 = .ok (.pop, 1) := by decide +kernel
theorem dX6_bestRow_90 : decode cX6_bestRow 90 = .ok (.iinc 8 (-1), 3) := by decide +kernel
theorem dX6_bestRow_93 : decode cX6_bestRow 93 = .ok (.goto (-21), 3) := by decide +kernel
theorem dX6_bestRow_96 : decode cX6_bestRow 96 = .ok (.aload_n 0, 1) := by decide +kernel
theorem dX6_bestRow_97 : decode cX6_bestRow 97 = .ok (.iload_n 1, 1) := by decide +kernel
theorem dX6_bestRow_98 : decode cX6_bestRow 98 = .ok (.iconst 2, 1) := by decide +kernel
theorem dX6_bestRow_99 : decode cX6_bestRow 99 = .ok (.invokevirtual 46, 3) := by decide +kernel
theorem dX6_bestRow_102 : decode cX6_bestRow 102 = .ok (.iload 6, 2) := by decide +kernel
theorem dX6_bestRow_104 : decode cX6_bestRow 104 = .ok (.if_icmp .le 8, 3) := by decide +kernel
theorem dX6_bestRow_107 : decode cX6_bestRow 107 = .ok (.iload 7, 2) := by decide +kernel
theorem dX6_bestRow_109 : decode cX6_bestRow 109 = .ok (.goto 5, 3) := by decide +kernel
theorem dX6_bestRow_112 : decode cX6_bestRow 112 = .ok (.iload 5, 2) := by decide +kernel
theorem dX6_bestRow_114 : decode cX6_bestRow 114 = .ok (.istore 5, 2) := by decide +kernel
theorem dX6_bestRow_116 : decode cX6_bestRow 116 = .ok (.aload_n 0, 1) := by decide +kernel
theorem dX6_bestRow_117 : decode cX6_bestRow 117 = .ok (.iload_n 1, 1) := by decide +kernel
theorem dX6_bestRow_118 : decode cX6_bestRow 118 = .ok (.iconst 2, 1) := by decide +kernel
theorem dX6_bestRow_119 : decode cX6_bestRow 119 = .ok (.invokevirtual 46, 3) := by decide +kernel
theorem dX6_bestRow_122 : decode cX6_bestRow 122 = .ok (.iload 6, 2) := by decide +kernel
theorem dX6_bestRow_124 : decode cX6_bestRow 124 = .ok (.if_icmp .le 12, 3) := by decide +kernel
theorem dX6_bestRow_127 : decode cX6_bestRow 127 = .ok (.aload_n 0, 1) := by decide +kernel
theorem dX6_bestRow_128 : decode cX6_bestRow 128 = .ok (.iload_n 1, 1) := by decide +kernel
theorem dX6_bestRow_129 : decode cX6_bestRow 129 = .ok (.iconst 2, 1) := by decide +kernel
theorem dX6_bestRow_130 : decode cX6_bestRow 130 = .ok (.invokevirtual 46, 3) := by decide +kernel
theorem dX6_bestRow_133 : decode cX6_bestRow 133 = .ok (.goto 5, 3) := by decide +kernel
theorem dX6_bestRow_136 : decode cX6_bestRow 136 = .ok (.iload 6, 2) := by decide +kernel
theorem dX6_bestRow_138 : decode cX6_bestRow 138 = .ok (.istore 6, 2) := by decide +kernel
theorem dX6_bestRow_140 : decode cX6_bestRow 140 = .ok (.aload_n 0, 1) := by decide +kernel
theorem dX6_bestRow_141 : decode cX6_bestRow 141 = .ok (.getfield 13, 3) := by decide +kernel
theorem dX6_bestRow_144 : decode cX6_bestRow 144 = .ok (.iconst 0, 1) := by decide +kernel
theorem dX6_bestRow_145 : decode cX6_bestRow 145 = .ok (.aload_n 0, 1) := by decide +kernel
theorem dX6_bestRow_146 : decode cX6_bestRow 146 = .ok (.getfield 7, 3) := by decide +kernel
theorem dX6_bestRow_149 : decode cX6_bestRow 149 = .ok (.iconst 0, 1) := by decide +kernel
theorem dX6_bestRow_150 : decode cX6_bestRow 150 = .ok (.invokestatic 38, 3) := by decide +kernel
theorem dX6_bestRow_153 : decode cX6_bestRow 153 = .ok (.iinc 7 1, 3) := by decide +kernel
theorem dX6_bestRow_156 : decode cX6_bestRow 156 = .ok (.goto (-97), 3) := by decide +kernel
theorem dX6_bestRow_159 : decode cX6_bestRow 159 = .ok (.iload 4, 2) := by decide +kernel
theorem dX6_bestRow_161 : decode cX6_bestRow 161 = .ok (.ifCond .ne 8, 3) := by decide +kernel
theorem dX6_bestRow_164 : decode cX6_bestRow 164 = .ok (.iload 5, 2) := by decide +kernel
theorem dX6_bestRow_166 : decode cX6_bestRow 166 = .ok (.goto 5, 3) := by decide +kernel
theorem dX6_bestRow_169 : decode cX6_bestRow 169 = .ok (.iload 6, 2) := by decide +kernel
theorem dX6_bestRow_171 : decode cX6_bestRow 171 = .ok (.ireturn, 1) := by decide +kernel
theorem dX6_count_0 : decode cX6_count 0 = .ok (.iconst 0, 1) := by decide +kernel
theorem dX6_count_1 : decode cX6_count 1 = .ok (.istore_n 2, 1) := by decide +kernel
theorem dX6_count_2 : decode cX6_count 2 = .ok (.iconst 0, 1) := by decide +kernel
theorem dX6_count_3 : decode cX6_count 3 = .ok (.istore_n 3, 1) := by decide +kernel
theorem dX6_count_4 : decode cX6_count 4 = .ok (.aload_n 0, 1) := by decide +kernel
theorem dX6_count_5 : decode cX6_count 5 = .ok (.getfield 7, 3) := by decide +kernel
theorem dX6_count_8 : decode cX6_count 8 = .ok (.iconst 4, 1) := by decide +kernel
theorem dX6_count_9 : decode cX6_count 9 = .ok (.iaload, 1) := by decide +kernel
theorem dX6_count_10 : decode cX6_count 10 = .ok (.istore 4, 2) := by decide +kernel
theorem dX6_count_12 : decode cX6_count 12 = .ok (.iconst 0, 1) := by decide +kernel
theorem dX6_count_13 : decode cX6_count 13 = .ok (.istore 5, 2) := by decide +kernel
theorem dX6_count_15 : decode cX6_count 15 = .ok (.iload 5, 2) := by decide +kernel
theorem dX6_count_17 : decode cX6_count 17 = .ok (.aload_n 0, 1) := by decide +kernel
theorem dX6_count_18 : decode cX6_count 18 = .ok (.getfield 7, 3) := by decide +kernel
theorem dX6_count_21 : decode cX6_count 21 = .ok (.bipush 7, 2) := by decide +kernel
theorem dX6_count_23 : decode cX6_count 23 = .ok (.iaload, 1) := by decide +kernel
theorem dX6_count_24 : decode cX6_count 24 = .ok (.if_icmp .ge 56, 3) := by decide +kernel
theorem dX6_count_27 : decode cX6_count 27 = .ok (.iload_n 2, 1) := by decide +kernel
theorem dX6_count_28 : decode cX6_count 28 = .ok (.aload_n 0, 1) := by decide +kernel
theorem dX6_count_29 : decode cX6_count 29 = .ok (.iload 5, 2) := by decide +kernel
theorem dX6_count_31 : decode cX6_count 31 = .ok (.invokevirtual 61, 3) := by decide +kernel
theorem dX6_count_34 : decode cX6_count 34 = .ok (.ifCond .eq 7, 3) := by decide +kernel
theorem dX6_count_37 : decode cX6_count 37 = .ok (.iconst 1, 1) := by decide +kernel
theorem dX6_count_38 : decode cX6_count 38 = .ok (.goto 4, 3) := by decide +kernel
theorem dX6_count_41 : decode cX6_count 41 = .ok (.iconst 0, 1) := by decide +kernel
theorem dX6_count_42 : decode cX6_count 42 = .ok (.iadd, 1) := by decide +kernel
theorem dX6_count_43 : decode cX6_count 43 = .ok (.istore_n 2, 1) := by decide +kernel
theorem dX6_count_44 : decode cX6_count 44 = .ok (.iload_n 3, 1) := by decide +kernel
theorem dX6_count_45 : decode cX6_count 45 = .ok (.aload_n 0, 1) := by decide +kernel
theorem dX6_count_46 : decode cX6_count 46 = .ok (.iload 5, 2) := by decide +kernel
theorem dX6_count_48 : decode cX6_count 48 = .ok (.iconst 2, 1) := by decide +kernel
theorem dX6_count_49 : decode cX6_count 49 = .ok (.invokevirtual 46, 3) := by decide +kernel
theorem dX6_count_52 : decode cX6_count 52 = .ok (.ifCond .ne 7, 3) := by decide +kernel
theorem dX6_count_55 : decode cX6_count 55 = .ok (.iconst 1, 1) := by decide +kernel
theorem dX6_count_56 : decode cX6_count 56 = .ok (.goto 4, 3) := by decide +kernel
theorem dX6_count_59 : decode cX6_count 59 = .ok (.iconst 0, 1) := by decide +kernel
theorem dX6_count_60 : decode cX6_count 60 = .ok (.iadd, 1) := by decide +kernel
theorem dX6_count_61 : decode cX6_count 61 = .ok (.istore_n 3, 1) := by decide +kernel
theorem dX6_count_62 : decode cX6_count 62 = .ok (.iload 4, 2) := by decide +kernel
theorem dX6_count_64 : decode cX6_count 64 = .ok (.aload_n 0, 1) := by decide +kernel
theorem dX6_count_65 : decode cX6_count 65 = .ok (.iload 5, 2) := by decide +kernel
theorem dX6_count_67 : decode cX6_count 67 = .ok (.iconst 2, 1) := by decide +kernel
theorem dX6_count_68 : decode cX6_count 68 = .ok (.invokevirtual 46, 3) := by decide +kernel
theorem dX6_count_71 : decode cX6_count 71 = .ok (.iadd, 1) := by decide +kernel
theorem dX6_count_72 : decode cX6_count 72 = .ok (.istore 4, 2) := by decide +kernel
theorem dX6_count_74 : decode cX6_count 74 = .ok (.iinc 5 1, 3) := by decide +kernel
theorem dX6_count_77 : decode cX6_count 77 = .ok (.goto (-62), 3) := by decide +kernel
theorem dX6_count_80 : decode cX6_count 80 = .ok (.iload_n 1, 1) := by decide +kernel
theorem dX6_count_81 : decode cX6_count 81 = .ok (.tableswitch 181 0 22 #[107, 115, 117, 119, 126, 129, 136, 143, 151, 159, 164, 181, 181, 181, 181, 181, 181, 181, 181, 181, 169, 169, 169], 107) := by decide +kernel
theorem dX6_count_188 : decode cX6_count 188 = .ok (.aload_n 0, 1) := by decide +kernel
theorem dX6_count_189 : decode cX6_count 189 = .ok (.getfield 7, 3) := by decide +kernel
theorem dX6_count_192 : decode cX6_count 192 = .ok (.bipush 7, 2) := by decide +kernel
theorem dX6_count_194 : decode cX6_count 194 = .ok (.iaload, 1) := by decide +kernel
theorem dX6_count_195 : decode cX6_count 195 = .ok (.ireturn, 1) := by decide +kernel
theorem dX6_count_196 : decode cX6_count 196 = .ok (.iload_n 2, 1) := by decide +kernel
theorem dX6_count_197 : decode cX6_count 197 = .ok (.ireturn, 1) := by decide +kernel
theorem dX6_count_198 : decode cX6_count 198 = .ok (.iload_n 3, 1) := by decide +kernel
theorem dX6_count_199 : decode cX6_count 199 = .ok (.ireturn, 1) := by decide +kernel
theorem dX6_count_200 : decode cX6_count 200 = .ok (.aload_n 0, 1) := by decide +kernel
theorem dX6_count_201 : decode cX6_count 201 = .ok (.getfield 7, 3) := by decide +kernel
theorem dX6_count_204 : decode cX6_count 204 = .ok (.iconst 4, 1) := by decide +kernel
theorem dX6_count_205 : decode cX6_count 205 = .ok (.iaload, 1) := by decide +kernel
theorem dX6_count_206 : decode cX6_count 206 = .ok (.ireturn, 1) := by decide +kernel
theorem dX6_count_207 : decode cX6_count 207 = .ok (.iload 4, 2) := by decide +kernel
theorem dX6_count_209 : decode cX6_count 209 = .ok (.ireturn, 1) := by decide +kernel
theorem dX6_count_210 : decode cX6_count 210 = .ok (.aload_n 0, 1) := by decide +kernel
theorem dX6_count_211 : decode cX6_count 211 = .ok (.getfield 7, 3) := by decide +kernel
theorem dX6_count_214 : decode cX6_count 214 = .ok (.iconst 3, 1) := by decide +kernel
theorem dX6_count_215 : decode cX6_count 215 = .ok (.iaload, 1) := by decide +kernel
theorem dX6_count_216 : decode cX6_count 216 = .ok (.ireturn, 1) := by decide +kernel
theorem dX6_count_217 : decode cX6_count 217 = .ok (.aload_n 0, 1) := by decide +kernel
theorem dX6_count_218 : decode cX6_count 218 = .ok (.getfield 7, 3) := by decide +kernel
theorem dX6_count_221 : decode cX6_count 221 = .ok (.iconst 5, 1) := by decide +kernel
theorem dX6_count_222 : decode cX6_count 222 = .ok (.iaload, 1) := by decide +kernel
theorem dX6_count_223 : decode cX6_count 223 = .ok (.ireturn, 1) := by decide +kernel
theorem dX6_count_224 : decode cX6_count 224 = .ok (.aload_n 0, 1) := by decide +kernel
theorem dX6_count_225 : decode cX6_count 225 = .ok (.getfield 7, 3) := by decide +kernel
theorem dX6_count_228 : decode cX6_count 228 = .ok (.bipush 6, 2) := by decide +kernel
theorem dX6_count_230 : decode cX6_count 230 = .ok (.iaload, 1) := by decide +kernel
theorem dX6_count_231 : decode cX6_count 231 = .ok (.ireturn, 1) := by decide +kernel
theorem dX6_count_232 : decode cX6_count 232 = .ok (.aload_n 0, 1) := by decide +kernel
theorem dX6_count_233 : decode cX6_count 233 = .ok (.getfield 7, 3) := by decide +kernel
theorem dX6_count_236 : decode cX6_count 236 = .ok (.bipush 8, 2) := by decide +kernel
theorem dX6_count_238 : decode cX6_count 238 = .ok (.iaload, 1) := by decide +kernel
theorem dX6_count_239 : decode cX6_count 239 = .ok (.ireturn, 1) := by decide +kernel
theorem dX6_count_240 : decode cX6_count 240 = .ok (.aload_n 0, 1) := by decide +kernel
theorem dX6_count_241 : decode cX6_count 241 = .ok (.getfield 34, 3) := by decide +kernel
theorem dX6_count_244 : decode cX6_count 244 = .ok (.ireturn, 1) := by decide +kernel
theorem dX6_count_245 : decode cX6_count 245 = .ok (.aload_n 0, 1) := by decide +kernel
theorem dX6_count_246 : decode cX6_count 246 = .ok (.getfield 140, 3) := by decide +kernel
theorem dX6_count_249 : decode cX6_count 249 = .ok (.ireturn, 1) := by decide +kernel
theorem dX6_count_250 : decode cX6_count 250 = .ok (.aload_n 0, 1) := by decide +kernel
theorem dX6_count_251 : decode cX6_count 251 = .ok (.getfield 7, 3) := by decide +kernel
theorem dX6_count_254 : decode cX6_count 254 = .ok (.iconst 0, 1) := by decide +kernel
theorem dX6_count_255 : decode cX6_count 255 = .ok (.iload_n 1, 1) := by decide +kernel
theorem dX6_count_256 : decode cX6_count 256 = .ok (.iadd, 1) := by decide +kernel
theorem dX6_count_257 : decode cX6_count 257 = .ok (.bipush 20, 2) := by decide +kernel
theorem dX6_count_259 : decode cX6_count 259 = .ok (.isub, 1) := by decide +kernel
theorem dX6_count_260 : decode cX6_count 260 = .ok (.iaload, 1) := by decide +kernel
theorem dX6_count_261 : decode cX6_count 261 = .ok (.ireturn, 1) := by decide +kernel
theorem dX6_count_262 : decode cX6_count 262 = .ok (.ldc 77, 2) := by decide +kernel
theorem dX6_count_264 : decode cX6_count 264 = .ok (.ireturn, 1) := by decide +kernel
theorem dX6_undo_0 : decode cX6_undo 0 = .ok (.aload_n 0, 1) := by decide +kernel
theorem dX6_undo_1 : decode cX6_undo 1 = .ok (.getfield 34, 3) := by decide +kernel
theorem dX6_undo_4 : decode cX6_undo 4 = .ok (.ifCond .ne 6, 3) := by decide +kernel
theorem dX6_undo_7 : decode cX6_undo 7 = .ok (.ldc 89, 2) := by decide +kernel
theorem dX6_undo_9 : decode cX6_undo 9 = .ok (.ireturn, 1) := by decide +kernel
theorem dX6_undo_10 : decode cX6_undo 10 = .ok (.aload_n 0, 1) := by decide +kernel
theorem dX6_undo_11 : decode cX6_undo 11 = .ok (.dup, 1) := by decide +kernel
theorem dX6_undo_12 : decode cX6_undo 12 = .ok (.getfield 34, 3) := by decide +kernel
theorem dX6_undo_15 : decode cX6_undo 15 = .ok (.iconst 1, 1) := by decide +kernel
theorem dX6_undo_16 : decode cX6_undo 16 = .ok (.isub, 1) := by decide +kernel
theorem dX6_undo_17 : decode cX6_undo 17 = .ok (.putfield 34, 3) := by decide +kernel
theorem dX6_undo_20 : decode cX6_undo 20 = .ok (.aload_n 0, 1) := by decide +kernel
theorem dX6_undo_21 : decode cX6_undo 21 = .ok (.getfield 16, 3) := by decide +kernel
theorem dX6_undo_24 : decode cX6_undo 24 = .ok (.aload_n 0, 1) := by decide +kernel
theorem dX6_undo_25 : decode cX6_undo 25 = .ok (.getfield 34, 3) := by decide +kernel
theorem dX6_undo_28 : decode cX6_undo 28 = .ok (.sipush 349, 3) := by decide +kernel
theorem dX6_undo_31 : decode cX6_undo 31 = .ok (.imul, 1) := by decide +kernel
theorem dX6_undo_32 : decode cX6_undo 32 = .ok (.aload_n 0, 1) := by decide +kernel
theorem dX6_undo_33 : decode cX6_undo 33 = .ok (.getfield 7, 3) := by decide +kernel
theorem dX6_undo_36 : decode cX6_undo 36 = .ok (.iconst 0, 1) := by decide +kernel
theorem dX6_undo_37 : decode cX6_undo 37 = .ok (.invokestatic 38, 3) := by decide +kernel
theorem dX6_undo_40 : decode cX6_undo 40 = .ok (.aload_n 0, 1) := by decide +kernel
theorem dX6_undo_41 : decode cX6_undo 41 = .ok (.getfield 34, 3) := by decide +kernel
theorem dX6_undo_44 : decode cX6_undo 44 = .ok (.ireturn, 1) := by decide +kernel
theorem dX6_type_0 : decode cX6_type 0 = .ok (.iload_n 1, 1) := by decide +kernel
theorem dX6_type_1 : decode cX6_type 1 = .ok (.bipush 32, 2) := by decide +kernel
theorem dX6_type_3 : decode cX6_type 3 = .ok (.bipush 126, 2) := by decide +kernel
theorem dX6_type_5 : decode cX6_type 5 = .ok (.invokestatic 42, 3) := by decide +kernel
theorem dX6_type_8 : decode cX6_type 8 = .ok (.ifCond .ne 6, 3) := by decide +kernel
theorem dX6_type_11 : decode cX6_type 11 = .ok (.ldc 77, 2) := by decide +kernel
theorem dX6_type_13 : decode cX6_type 13 = .ok (.ireturn, 1) := by decide +kernel
theorem dX6_type_14 : decode cX6_type 14 = .ok (.aload_n 0, 1) := by decide +kernel
theorem dX6_type_15 : decode cX6_type 15 = .ok (.getfield 140, 3) := by decide +kernel
theorem dX6_type_18 : decode cX6_type 18 = .ok (.bipush 80, 2) := by decide +kernel
theorem dX6_type_20 : decode cX6_type 20 = .ok (.if_icmp .ne 6, 3) := by decide +kernel
theorem dX6_type_23 : decode cX6_type 23 = .ok (.ldc 81, 2) := by decide +kernel
theorem dX6_type_25 : decode cX6_type 25 = .ok (.ireturn, 1) := by decide +kernel
theorem dX6_type_26 : decode cX6_type 26 = .ok (.aload_n 0, 1) := by decide +kernel
theorem dX6_type_27 : decode cX6_type 27 = .ok (.getfield 19, 3) := by decide +kernel
theorem dX6_type_30 : decode cX6_type 30 = .ok (.aload_n 0, 1) := by decide +kernel
theorem dX6_type_31 : decode cX6_type 31 = .ok (.getfield 140, 3) := by decide +kernel
theorem dX6_type_34 : decode cX6_type 34 = .ok (.iload_n 1, 1) := by decide +kernel
theorem dX6_type_35 : decode cX6_type 35 = .ok (.iastore, 1) := by decide +kernel
theorem dX6_type_36 : decode cX6_type 36 = .ok (.aload_n 0, 1) := by decide +kernel
theorem dX6_type_37 : decode cX6_type 37 = .ok (.dup, 1) := by decide +kernel
theorem dX6_type_38 : decode cX6_type 38 = .ok (.getfield 140, 3) := by decide +kernel
theorem dX6_type_41 : decode cX6_type 41 = .ok (.iconst 1, 1) := by decide +kernel
theorem dX6_type_42 : decode cX6_type 42 = .ok (.iadd, 1) := by decide +kernel
theorem dX6_type_43 : decode cX6_type 43 = .ok (.putfield 140, 3) := by decide +kernel
theorem dX6_type_46 : decode cX6_type 46 = .ok (.aload_n 0, 1) := by decide +kernel
theorem dX6_type_47 : decode cX6_type 47 = .ok (.getfield 140, 3) := by decide +kernel
theorem dX6_type_50 : decode cX6_type 50 = .ok (.ireturn, 1) := by decide +kernel
theorem dX6_clearText_0 : decode cX6_clearText 0 = .ok (.aload_n 0, 1) := by decide +kernel
theorem dX6_clearText_1 : decode cX6_clearText 1 = .ok (.getfield 140, 3) := by decide +kernel
theorem dX6_clearText_4 : decode cX6_clearText 4 = .ok (.istore_n 1, 1) := by decide +kernel
theorem dX6_clearText_5 : decode cX6_clearText 5 = .ok (.aload_n 0, 1) := by decide +kernel
theorem dX6_clearText_6 : decode cX6_clearText 6 = .ok (.iconst 0, 1) := by decide +kernel
theorem dX6_clearText_7 : decode cX6_clearText 7 = .ok (.putfield 140, 3) := by decide +kernel
theorem dX6_clearText_10 : decode cX6_clearText 10 = .ok (.iload_n 1, 1) := by decide +kernel
theorem dX6_clearText_11 : decode cX6_clearText 11 = .ok (.ireturn, 1) := by decide +kernel
theorem dX6_character_0 : decode cX6_character 0 = .ok (.iload_n 1, 1) := by decide +kernel
theorem dX6_character_1 : decode cX6_character 1 = .ok (.aload_n 0, 1) := by decide +kernel
theorem dX6_character_2 : decode cX6_character 2 = .ok (.getfield 140, 3) := by decide +kernel
theorem dX6_character_5 : decode cX6_character 5 = .ok (.if_icmp .ge 12, 3) := by decide +kernel
theorem dX6_character_8 : decode cX6_character 8 = .ok (.aload_n 0, 1) := by decide +kernel
theorem dX6_character_9 : decode cX6_character 9 = .ok (.getfield 19, 3) := by decide +kernel
theorem dX6_character_12 : decode cX6_character 12 = .ok (.iload_n 1, 1) := by decide +kernel
theorem dX6_character_13 : decode cX6_character 13 = .ok (.iaload, 1) := by decide +kernel
theorem dX6_character_14 : decode cX6_character 14 = .ok (.goto 4, 3) := by decide +kernel
theorem dX6_character_17 : decode cX6_character 17 = .ok (.iconst (-1), 1) := by decide +kernel
theorem dX6_character_18 : decode cX6_character 18 = .ok (.ireturn, 1) := by decide +kernel
theorem dX6_isLetter_0 : decode cX6_isLetter 0 = .ok (.aload_n 0, 1) := by decide +kernel
theorem dX6_isLetter_1 : decode cX6_isLetter 1 = .ok (.iload_n 1, 1) := by decide +kernel
theorem dX6_isLetter_2 : decode cX6_isLetter 2 = .ok (.invokevirtual 143, 3) := by decide +kernel
theorem dX6_isLetter_5 : decode cX6_isLetter 5 = .ok (.bipush 97, 2) := by decide +kernel
theorem dX6_isLetter_7 : decode cX6_isLetter 7 = .ok (.bipush 122, 2) := by decide +kernel
theorem dX6_isLetter_9 : decode cX6_isLetter 9 = .ok (.invokestatic 42, 3) := by decide +kernel
theorem dX6_isLetter_12 : decode cX6_isLetter 12 = .ok (.ireturn, 1) := by decide +kernel
theorem dX6_isWord_0 : decode cX6_isWord 0 = .ok (.aload_n 0, 1) := by decide +kernel
theorem dX6_isWord_1 : decode cX6_isWord 1 = .ok (.aload_n 0, 1) := by decide +kernel
theorem dX6_isWord_2 : decode cX6_isWord 2 = .ok (.getfield 146, 3) := by decide +kernel
theorem dX6_isWord_5 : decode cX6_isWord 5 = .ok (.invokevirtual 143, 3) := by decide +kernel
theorem dX6_isWord_8 : decode cX6_isWord 8 = .ok (.iload_n 2, 1) := by decide +kernel
theorem dX6_isWord_9 : decode cX6_isWord 9 = .ok (.if_icmp .ne 36, 3) := by decide +kernel
theorem dX6_isWord_12 : decode cX6_isWord 12 = .ok (.aload_n 0, 1) := by decide +kernel
theorem dX6_isWord_13 : decode cX6_isWord 13 = .ok (.aload_n 0, 1) := by decide +kernel
theorem dX6_isWord_14 : decode cX6_isWord 14 = .ok (.getfield 146, 3) := by decide +kernel
theorem dX6_isWord_17 : decode cX6_isWord 17 = .ok (.iconst 1, 1) := by decide +kernel
theorem dX6_isWord_18 : decode cX6_isWord 18 = .ok (.iadd, 1) := by decide +kernel
theorem dX6_isWord_19 : decode cX6_isWord 19 = .ok (.invokevirtual 143, 3) := by decide +kernel
theorem dX6_isWord_22 : decode cX6_isWord 22 = .ok (.iload_n 3, 1) := by decide +kernel
theorem dX6_isWord_23 : decode cX6_isWord 23 = .ok (.if_icmp .ne 22, 3) := by decide +kernel
theorem dX6_isWord_26 : decode cX6_isWord 26 = .ok (.aload_n 0, 1) := by decide +kernel
theorem dX6_isWord_27 : decode cX6_isWord 27 = .ok (.aload_n 0, 1) := by decide +kernel
theorem dX6_isWord_28 : decode cX6_isWord 28 = .ok (.getfield 146, 3) := by decide +kernel
theorem dX6_isWord_31 : decode cX6_isWord 31 = .ok (.iconst 2, 1) := by decide +kernel
theorem dX6_isWord_32 : decode cX6_isWord 32 = .ok (.iadd, 1) := by decide +kernel
theorem dX6_isWord_33 : decode cX6_isWord 33 = .ok (.invokevirtual 143, 3) := by decide +kernel
theorem dX6_isWord_36 : decode cX6_isWord 36 = .ok (.iload 4, 2) := by decide +kernel
theorem dX6_isWord_38 : decode cX6_isWord 38 = .ok (.if_icmp .ne 7, 3) := by decide +kernel
theorem dX6_isWord_41 : decode cX6_isWord 41 = .ok (.iconst 1, 1) := by decide +kernel
theorem dX6_isWord_42 : decode cX6_isWord 42 = .ok (.goto 4, 3) := by decide +kernel
theorem dX6_isWord_45 : decode cX6_isWord 45 = .ok (.iconst 0, 1) := by decide +kernel
theorem dX6_isWord_46 : decode cX6_isWord 46 = .ok (.istore 6, 2) := by decide +kernel
theorem dX6_isWord_48 : decode cX6_isWord 48 = .ok (.iload 6, 2) := by decide +kernel
theorem dX6_isWord_50 : decode cX6_isWord 50 = .ok (.ifCond .eq 40, 3) := by decide +kernel
theorem dX6_isWord_53 : decode cX6_isWord 53 = .ok (.iload 5, 2) := by decide +kernel
theorem dX6_isWord_55 : decode cX6_isWord 55 = .ok (.ifCond .ne 11, 3) := by decide +kernel
theorem dX6_isWord_58 : decode cX6_isWord 58 = .ok (.iload_n 1, 1) := by decide +kernel
theorem dX6_isWord_59 : decode cX6_isWord 59 = .ok (.iconst 3, 1) := by decide +kernel
theorem dX6_isWord_60 : decode cX6_isWord 60 = .ok (.if_icmp .ne 30, 3) := by decide +kernel
theorem dX6_isWord_63 : decode cX6_isWord 63 = .ok (.goto 23, 3) := by decide +kernel
theorem dX6_isWord_66 : decode cX6_isWord 66 = .ok (.iload_n 1, 1) := by decide +kernel
theorem dX6_isWord_67 : decode cX6_isWord 67 = .ok (.iconst 4, 1) := by decide +kernel
theorem dX6_isWord_68 : decode cX6_isWord 68 = .ok (.if_icmp .ne 22, 3) := by decide +kernel
theorem dX6_isWord_71 : decode cX6_isWord 71 = .ok (.aload_n 0, 1) := by decide +kernel
theorem dX6_isWord_72 : decode cX6_isWord 72 = .ok (.aload_n 0, 1) := by decide +kernel
theorem dX6_isWord_73 : decode cX6_isWord 73 = .ok (.getfield 146, 3) := by decide +kernel
theorem dX6_isWord_76 : decode cX6_isWord 76 = .ok (.iconst 3, 1) := by decide +kernel
theorem dX6_isWord_77 : decode cX6_isWord 77 = .ok (.iadd, 1) := by decide +kernel
theorem dX6_isWord_78 : decode cX6_isWord 78 = .ok (.invokevirtual 143, 3) := by decide +kernel
theorem dX6_isWord_81 : decode cX6_isWord 81 = .ok (.iload 5, 2) := by decide +kernel
theorem dX6_isWord_83 : decode cX6_isWord 83 = .ok (.if_icmp .ne 7, 3) := by decide +kernel
theorem dX6_isWord_86 : decode cX6_isWord 86 = .ok (.iconst 1, 1) := by decide +kernel
theorem dX6_isWord_87 : decode cX6_isWord 87 = .ok (.goto 4, 3) := by decide +kernel
theorem dX6_isWord_90 : decode cX6_isWord 90 = .ok (.iconst 0, 1) := by decide +kernel
theorem dX6_isWord_91 : decode cX6_isWord 91 = .ok (.ireturn, 1) := by decide +kernel
theorem dX6_orderOf_0 : decode cX6_orderOf 0 = .ok (.aload_n 0, 1) := by decide +kernel
theorem dX6_orderOf_1 : decode cX6_orderOf 1 = .ok (.iload_n 1, 1) := by decide +kernel
theorem dX6_orderOf_2 : decode cX6_orderOf 2 = .ok (.bipush 116, 2) := by decide +kernel
theorem dX6_orderOf_4 : decode cX6_orderOf 4 = .ok (.bipush 97, 2) := by decide +kernel
theorem dX6_orderOf_6 : decode cX6_orderOf 6 = .ok (.bipush 107, 2) := by decide +kernel
theorem dX6_orderOf_8 : decode cX6_orderOf 8 = .ok (.bipush 101, 2) := by decide +kernel
theorem dX6_orderOf_10 : decode cX6_orderOf 10 = .ok (.invokevirtual 149, 3) := by decide +kernel
theorem dX6_orderOf_13 : decode cX6_orderOf 13 = .ok (.ifCond .eq 5, 3) := by decide +kernel
theorem dX6_orderOf_16 : decode cX6_orderOf 16 = .ok (.iconst 0, 1) := by decide +kernel
theorem dX6_orderOf_17 : decode cX6_orderOf 17 = .ok (.ireturn, 1) := by decide +kernel
theorem dX6_orderOf_18 : decode cX6_orderOf 18 = .ok (.aload_n 0, 1) := by decide +kernel
theorem dX6_orderOf_19 : decode cX6_orderOf 19 = .ok (.iload_n 1, 1) := by decide +kernel
theorem dX6_orderOf_20 : decode cX6_orderOf 20 = .ok (.bipush 115, 2) := by decide +kernel
theorem dX6_orderOf_22 : decode cX6_orderOf 22 = .ok (.bipush 107, 2) := by decide +kernel
theorem dX6_orderOf_24 : decode cX6_orderOf 24 = .ok (.bipush 105, 2) := by decide +kernel
theorem dX6_orderOf_26 : decode cX6_orderOf 26 = .ok (.bipush 112, 2) := by decide +kernel
theorem dX6_orderOf_28 : decode cX6_orderOf 28 = .ok (.invokevirtual 149, 3) := by decide +kernel
theorem dX6_orderOf_31 : decode cX6_orderOf 31 = .ok (.ifCond .eq 5, 3) := by decide +kernel
theorem dX6_orderOf_34 : decode cX6_orderOf 34 = .ok (.iconst 1, 1) := by decide +kernel
theorem dX6_orderOf_35 : decode cX6_orderOf 35 = .ok (.ireturn, 1) := by decide +kernel
theorem dX6_orderOf_36 : decode cX6_orderOf 36 = .ok (.aload_n 0, 1) := by decide +kernel
theorem dX6_orderOf_37 : decode cX6_orderOf 37 = .ok (.iload_n 1, 1) := by decide +kernel
theorem dX6_orderOf_38 : decode cX6_orderOf 38 = .ok (.bipush 102, 2) := by decide +kernel
theorem dX6_orderOf_40 : decode cX6_orderOf 40 = .ok (.bipush 108, 2) := by decide +kernel
theorem dX6_orderOf_42 : decode cX6_orderOf 42 = .ok (.bipush 105, 2) := by decide +kernel
theorem dX6_orderOf_44 : decode cX6_orderOf 44 = .ok (.bipush 112, 2) := by decide +kernel
theorem dX6_orderOf_46 : decode cX6_orderOf 46 = .ok (.invokevirtual 149, 3) := by decide +kernel
theorem dX6_orderOf_49 : decode cX6_orderOf 49 = .ok (.ifCond .eq 5, 3) := by decide +kernel
theorem dX6_orderOf_52 : decode cX6_orderOf 52 = .ok (.iconst 2, 1) := by decide +kernel
theorem dX6_orderOf_53 : decode cX6_orderOf 53 = .ok (.ireturn, 1) := by decide +kernel
theorem dX6_orderOf_54 : decode cX6_orderOf 54 = .ok (.aload_n 0, 1) := by decide +kernel
theorem dX6_orderOf_55 : decode cX6_orderOf 55 = .ok (.iload_n 1, 1) := by decide +kernel
theorem dX6_orderOf_56 : decode cX6_orderOf 56 = .ok (.bipush 108, 2) := by decide +kernel
theorem dX6_orderOf_58 : decode cX6_orderOf 58 = .ok (.bipush 111, 2) := by decide +kernel
theorem dX6_orderOf_60 : decode cX6_orderOf 60 = .ok (.bipush 111, 2) := by decide +kernel
theorem dX6_orderOf_62 : decode cX6_orderOf 62 = .ok (.bipush 112, 2) := by decide +kernel
theorem dX6_orderOf_64 : decode cX6_orderOf 64 = .ok (.invokevirtual 149, 3) := by decide +kernel
theorem dX6_orderOf_67 : decode cX6_orderOf 67 = .ok (.ifCond .eq 5, 3) := by decide +kernel
theorem dX6_orderOf_70 : decode cX6_orderOf 70 = .ok (.iconst 3, 1) := by decide +kernel
theorem dX6_orderOf_71 : decode cX6_orderOf 71 = .ok (.ireturn, 1) := by decide +kernel
theorem dX6_orderOf_72 : decode cX6_orderOf 72 = .ok (.aload_n 0, 1) := by decide +kernel
theorem dX6_orderOf_73 : decode cX6_orderOf 73 = .ok (.iload_n 1, 1) := by decide +kernel
theorem dX6_orderOf_74 : decode cX6_orderOf 74 = .ok (.bipush 99, 2) := by decide +kernel
theorem dX6_orderOf_76 : decode cX6_orderOf 76 = .ok (.bipush 117, 2) := by decide +kernel
theorem dX6_orderOf_78 : decode cX6_orderOf 78 = .ok (.bipush 116, 2) := by decide +kernel
theorem dX6_orderOf_80 : decode cX6_orderOf 80 = .ok (.iconst 0, 1) := by decide +kernel
theorem dX6_orderOf_81 : decode cX6_orderOf 81 = .ok (.invokevirtual 149, 3) := by decide +kernel
theorem dX6_orderOf_84 : decode cX6_orderOf 84 = .ok (.ifCond .eq 7, 3) := by decide +kernel
theorem dX6_orderOf_87 : decode cX6_orderOf 87 = .ok (.iconst 4, 1) := by decide +kernel
theorem dX6_orderOf_88 : decode cX6_orderOf 88 = .ok (.goto 4, 3) := by decide +kernel
theorem dX6_orderOf_91 : decode cX6_orderOf 91 = .ok (.iconst (-1), 1) := by decide +kernel
theorem dX6_orderOf_92 : decode cX6_orderOf 92 = .ok (.ireturn, 1) := by decide +kernel
theorem dX6_number_0 : decode cX6_number 0 = .ok (.aload_n 0, 1) := by decide +kernel
theorem dX6_number_1 : decode cX6_number 1 = .ok (.aload_n 0, 1) := by decide +kernel
theorem dX6_number_2 : decode cX6_number 2 = .ok (.getfield 153, 3) := by decide +kernel
theorem dX6_number_5 : decode cX6_number 5 = .ok (.invokevirtual 143, 3) := by decide +kernel
theorem dX6_number_8 : decode cX6_number 8 = .ok (.bipush 32, 2) := by decide +kernel
theorem dX6_number_10 : decode cX6_number 10 = .ok (.if_icmp .eq 5, 3) := by decide +kernel
theorem dX6_number_13 : decode cX6_number 13 = .ok (.iconst (-1), 1) := by decide +kernel
theorem dX6_number_14 : decode cX6_number 14 = .ok (.ireturn, 1) := by decide +kernel
theorem dX6_number_15 : decode cX6_number 15 = .ok (.aload_n 0, 1) := by decide +kernel
theorem dX6_number_16 : decode cX6_number 16 = .ok (.dup, 1) := by decide +kernel
theorem dX6_number_17 : decode cX6_number 17 = .ok (.getfield 153, 3) := by decide +kernel
theorem dX6_number_20 : decode cX6_number 20 = .ok (.iconst 1, 1) := by decide +kernel
theorem dX6_number_21 : decode cX6_number 21 = .ok (.iadd, 1) := by decide +kernel
theorem dX6_number_22 : decode cX6_number 22 = .ok (.putfield 153, 3) := by decide +kernel
theorem dX6_number_25 : decode cX6_number 25 = .ok (.iconst (-1), 1) := by decide +kernel
theorem dX6_number_26 : decode cX6_number 26 = .ok (.istore_n 1, 1) := by decide +kernel
theorem dX6_number_27 : decode cX6_number 27 = .ok (.iconst 0, 1) := by decide +kernel
theorem dX6_number_28 : decode cX6_number 28 = .ok (.istore_n 2, 1) := by decide +kernel
theorem dX6_number_29 : decode cX6_number 29 = .ok (.iload_n 2, 1) := by decide +kernel
theorem dX6_number_30 : decode cX6_number 30 = .ok (.iconst 2, 1) := by decide +kernel
theorem dX6_number_31 : decode cX6_number 31 = .ok (.if_icmp .ge 63, 3) := by decide +kernel
theorem dX6_number_34 : decode cX6_number 34 = .ok (.aload_n 0, 1) := by decide +kernel
theorem dX6_number_35 : decode cX6_number 35 = .ok (.aload_n 0, 1) := by decide +kernel
theorem dX6_number_36 : decode cX6_number 36 = .ok (.getfield 153, 3) := by decide +kernel
theorem dX6_number_39 : decode cX6_number 39 = .ok (.invokevirtual 143, 3) := by decide +kernel
theorem dX6_number_42 : decode cX6_number 42 = .ok (.bipush 48, 2) := by decide +kernel
theorem dX6_number_44 : decode cX6_number 44 = .ok (.bipush 57, 2) := by decide +kernel
theorem dX6_number_46 : decode cX6_number 46 = .ok (.invokestatic 42, 3) := by decide +kernel
theorem dX6_number_49 : decode cX6_number 49 = .ok (.ifCond .eq 45, 3) := by decide +kernel
theorem dX6_number_52 : decode cX6_number 52 = .ok (.iload_n 1, 1) := by decide +kernel
theorem dX6_number_53 : decode cX6_number 53 = .ok (.iconst (-1), 1) := by decide +kernel
theorem dX6_number_54 : decode cX6_number 54 = .ok (.if_icmp .ne 7, 3) := by decide +kernel
theorem dX6_number_57 : decode cX6_number 57 = .ok (.iconst 0, 1) := by decide +kernel
theorem dX6_number_58 : decode cX6_number 58 = .ok (.goto 7, 3) := by decide +kernel
theorem dX6_number_61 : decode cX6_number 61 = .ok (.bipush 10, 2) := by decide +kernel
theorem dX6_number_63 : decode cX6_number 63 = .ok (.iload_n 1, 1) := by decide +kernel
theorem dX6_number_64 : decode cX6_number 64 = .ok (.imul, 1) := by decide +kernel
theorem dX6_number_65 : decode cX6_number 65 = .ok (.aload_n 0, 1) := by decide +kernel
theorem dX6_number_66 : decode cX6_number 66 = .ok (.aload_n 0, 1) := by decide +kernel
theorem dX6_number_67 : decode cX6_number 67 = .ok (.getfield 153, 3) := by decide +kernel
theorem dX6_number_70 : decode cX6_number 70 = .ok (.invokevirtual 143, 3) := by decide +kernel
theorem dX6_number_73 : decode cX6_number 73 = .ok (.iadd, 1) := by decide +kernel
theorem dX6_number_74 : decode cX6_number 74 = .ok (.bipush 48, 2) := by decide +kernel
theorem dX6_number_76 : decode cX6_number 76 = .ok (.isub, 1) := by decide +kernel
theorem dX6_number_77 : decode cX6_number 77 = .ok (.istore_n 1, 1) := by decide +kernel
theorem dX6_number_78 : decode cX6_number 78 = .ok (.aload_n 0, 1) := by decide +kernel
theorem dX6_number_79 : decode cX6_number 79 = .ok (.dup, 1) := by decide +kernel
theorem dX6_number_80 : decode cX6_number 80 = .ok (.getfield 153, 3) := by decide +kernel
theorem dX6_number_83 : decode cX6_number 83 = .ok (.iconst 1, 1) := by decide +kernel
theorem dX6_number_84 : decode cX6_number 84 = .ok (.iadd, 1) := by decide +kernel
theorem dX6_number_85 : decode cX6_number 85 = .ok (.putfield 153, 3) := by decide +kernel
theorem dX6_number_88 : decode cX6_number 88 = .ok (.iinc 2 1, 3) := by decide +kernel
theorem dX6_number_91 : decode cX6_number 91 = .ok (.goto (-62), 3) := by decide +kernel
theorem dX6_number_94 : decode cX6_number 94 = .ok (.iload_n 1, 1) := by decide +kernel
theorem dX6_number_95 : decode cX6_number 95 = .ok (.ireturn, 1) := by decide +kernel
theorem dX6_isOfForm_0 : decode cX6_isOfForm 0 = .ok (.iconst 0, 1) := by decide +kernel
theorem dX6_isOfForm_1 : decode cX6_isOfForm 1 = .ok (.istore_n 1, 1) := by decide +kernel
theorem dX6_isOfForm_2 : decode cX6_isOfForm 2 = .ok (.aload_n 0, 1) := by decide +kernel
theorem dX6_isOfForm_3 : decode cX6_isOfForm 3 = .ok (.aload_n 0, 1) := by decide +kernel
theorem dX6_isOfForm_4 : decode cX6_isOfForm 4 = .ok (.getfield 146, 3) := by decide +kernel
theorem dX6_isOfForm_7 : decode cX6_isOfForm 7 = .ok (.iload_n 1, 1) := by decide +kernel
theorem dX6_isOfForm_8 : decode cX6_isOfForm 8 = .ok (.iadd, 1) := by decide +kernel
theorem dX6_isOfForm_9 : decode cX6_isOfForm 9 = .ok (.invokevirtual 156, 3) := by decide +kernel
theorem dX6_isOfForm_12 : decode cX6_isOfForm 12 = .ok (.ifCond .eq 9, 3) := by decide +kernel
theorem dX6_isOfForm_15 : decode cX6_isOfForm 15 = .ok (.iinc 1 1, 3) := by decide +kernel
theorem dX6_isOfForm_18 : decode cX6_isOfForm 18 = .ok (.goto (-16), 3) := by decide +kernel
theorem dX6_isOfForm_21 : decode cX6_isOfForm 21 = .ok (.aload_n 0, 1) := by decide +kernel
theorem dX6_isOfForm_22 : decode cX6_isOfForm 22 = .ok (.aload_n 0, 1) := by decide +kernel
theorem dX6_isOfForm_23 : decode cX6_isOfForm 23 = .ok (.iload_n 1, 1) := by decide +kernel
theorem dX6_isOfForm_24 : decode cX6_isOfForm 24 = .ok (.invokevirtual 159, 3) := by decide +kernel
theorem dX6_isOfForm_27 : decode cX6_isOfForm 27 = .ok (.putfield 162, 3) := by decide +kernel
theorem dX6_isOfForm_30 : decode cX6_isOfForm 30 = .ok (.aload_n 0, 1) := by decide +kernel
theorem dX6_isOfForm_31 : decode cX6_isOfForm 31 = .ok (.aload_n 0, 1) := by decide +kernel
theorem dX6_isOfForm_32 : decode cX6_isOfForm 32 = .ok (.getfield 146, 3) := by decide +kernel
theorem dX6_isOfForm_35 : decode cX6_isOfForm 35 = .ok (.iload_n 1, 1) := by decide +kernel
theorem dX6_isOfForm_36 : decode cX6_isOfForm 36 = .ok (.iadd, 1) := by decide +kernel
theorem dX6_isOfForm_37 : decode cX6_isOfForm 37 = .ok (.putfield 153, 3) := by decide +kernel
theorem dX6_isOfForm_40 : decode cX6_isOfForm 40 = .ok (.aload_n 0, 1) := by decide +kernel
theorem dX6_isOfForm_41 : decode cX6_isOfForm 41 = .ok (.iconst 0, 1) := by decide +kernel
theorem dX6_isOfForm_42 : decode cX6_isOfForm 42 = .ok (.putfield 165, 3) := by decide +kernel
theorem dX6_isOfForm_45 : decode cX6_isOfForm 45 = .ok (.aload_n 0, 1) := by decide +kernel
theorem dX6_isOfForm_46 : decode cX6_isOfForm 46 = .ok (.iconst 0, 1) := by decide +kernel
theorem dX6_isOfForm_47 : decode cX6_isOfForm 47 = .ok (.putfield 168, 3) := by decide +kernel
theorem dX6_isOfForm_50 : decode cX6_isOfForm 50 = .ok (.aload_n 0, 1) := by decide +kernel
theorem dX6_isOfForm_51 : decode cX6_isOfForm 51 = .ok (.getfield 162, 3) := by decide +kernel
theorem dX6_isOfForm_54 : decode cX6_isOfForm 54 = .ok (.iconst (-1), 1) := by decide +kernel
theorem dX6_isOfForm_55 : decode cX6_isOfForm 55 = .ok (.if_icmp .ne 13, 3) := by decide +kernel
theorem dX6_isOfForm_58 : decode cX6_isOfForm 58 = .ok (.aload_n 0, 1) := by decide +kernel
theorem dX6_isOfForm_59 : decode cX6_isOfForm 59 = .ok (.aload_n 0, 1) := by decide +kernel
theorem dX6_isOfForm_60 : decode cX6_isOfForm 60 = .ok (.getfield 146, 3) := by decide +kernel
theorem dX6_isOfForm_63 : decode cX6_isOfForm 63 = .ok (.putfield 153, 3) := by decide +kernel
theorem dX6_isOfForm_66 : decode cX6_isOfForm 66 = .ok (.iconst 0, 1) := by decide +kernel
theorem dX6_isOfForm_67 : decode cX6_isOfForm 67 = .ok (.ireturn, 1) := by decide +kernel
theorem dX6_isOfForm_68 : decode cX6_isOfForm 68 = .ok (.aload_n 0, 1) := by decide +kernel
theorem dX6_isOfForm_69 : decode cX6_isOfForm 69 = .ok (.aload_n 0, 1) := by decide +kernel
theorem dX6_isOfForm_70 : decode cX6_isOfForm 70 = .ok (.invokevirtual 171, 3) := by decide +kernel
theorem dX6_isOfForm_73 : decode cX6_isOfForm 73 = .ok (.putfield 165, 3) := by decide +kernel
theorem dX6_isOfForm_76 : decode cX6_isOfForm 76 = .ok (.aload_n 0, 1) := by decide +kernel
theorem dX6_isOfForm_77 : decode cX6_isOfForm 77 = .ok (.getfield 165, 3) := by decide +kernel
theorem dX6_isOfForm_80 : decode cX6_isOfForm 80 = .ok (.iconst (-1), 1) := by decide +kernel
theorem dX6_isOfForm_81 : decode cX6_isOfForm 81 = .ok (.if_icmp .ne 5, 3) := by decide +kernel
theorem dX6_isOfForm_84 : decode cX6_isOfForm 84 = .ok (.iconst 0, 1) := by decide +kernel
theorem dX6_isOfForm_85 : decode cX6_isOfForm 85 = .ok (.ireturn, 1) := by decide +kernel
theorem dX6_isOfForm_86 : decode cX6_isOfForm 86 = .ok (.aload_n 0, 1) := by decide +kernel
theorem dX6_isOfForm_87 : decode cX6_isOfForm 87 = .ok (.getfield 162, 3) := by decide +kernel
theorem dX6_isOfForm_90 : decode cX6_isOfForm 90 = .ok (.iconst 4, 1) := by decide +kernel
theorem dX6_isOfForm_91 : decode cX6_isOfForm 91 = .ok (.if_icmp .eq 21, 3) := by decide +kernel
theorem dX6_isOfForm_94 : decode cX6_isOfForm 94 = .ok (.aload_n 0, 1) := by decide +kernel
theorem dX6_isOfForm_95 : decode cX6_isOfForm 95 = .ok (.aload_n 0, 1) := by decide +kernel
theorem dX6_isOfForm_96 : decode cX6_isOfForm 96 = .ok (.invokevirtual 171, 3) := by decide +kernel
theorem dX6_isOfForm_99 : decode cX6_isOfForm 99 = .ok (.putfield 168, 3) := by decide +kernel
theorem dX6_isOfForm_102 : decode cX6_isOfForm 102 = .ok (.aload_n 0, 1) := by decide +kernel
theorem dX6_isOfForm_103 : decode cX6_isOfForm 103 = .ok (.getfield 168, 3) := by decide +kernel
theorem dX6_isOfForm_106 : decode cX6_isOfForm 106 = .ok (.iconst (-1), 1) := by decide +kernel
theorem dX6_isOfForm_107 : decode cX6_isOfForm 107 = .ok (.if_icmp .ne 5, 3) := by decide +kernel
theorem dX6_isOfForm_110 : decode cX6_isOfForm 110 = .ok (.iconst 0, 1) := by decide +kernel
theorem dX6_isOfForm_111 : decode cX6_isOfForm 111 = .ok (.ireturn, 1) := by decide +kernel
theorem dX6_isOfForm_112 : decode cX6_isOfForm 112 = .ok (.aload_n 0, 1) := by decide +kernel
theorem dX6_isOfForm_113 : decode cX6_isOfForm 113 = .ok (.aload_n 0, 1) := by decide +kernel
theorem dX6_isOfForm_114 : decode cX6_isOfForm 114 = .ok (.getfield 153, 3) := by decide +kernel
theorem dX6_isOfForm_117 : decode cX6_isOfForm 117 = .ok (.invokevirtual 143, 3) := by decide +kernel
theorem dX6_isOfForm_120 : decode cX6_isOfForm 120 = .ok (.bipush 59, 2) := by decide +kernel
theorem dX6_isOfForm_122 : decode cX6_isOfForm 122 = .ok (.if_icmp .eq 5, 3) := by decide +kernel
theorem dX6_isOfForm_125 : decode cX6_isOfForm 125 = .ok (.iconst 0, 1) := by decide +kernel
theorem dX6_isOfForm_126 : decode cX6_isOfForm 126 = .ok (.ireturn, 1) := by decide +kernel
theorem dX6_isOfForm_127 : decode cX6_isOfForm 127 = .ok (.aload_n 0, 1) := by decide +kernel
theorem dX6_isOfForm_128 : decode cX6_isOfForm 128 = .ok (.dup, 1) := by decide +kernel
theorem dX6_isOfForm_129 : decode cX6_isOfForm 129 = .ok (.getfield 153, 3) := by decide +kernel
theorem dX6_isOfForm_132 : decode cX6_isOfForm 132 = .ok (.iconst 1, 1) := by decide +kernel
theorem dX6_isOfForm_133 : decode cX6_isOfForm 133 = .ok (.iadd, 1) := by decide +kernel
theorem dX6_isOfForm_134 : decode cX6_isOfForm 134 = .ok (.putfield 153, 3) := by decide +kernel
theorem dX6_isOfForm_137 : decode cX6_isOfForm 137 = .ok (.iconst 1, 1) := by decide +kernel
theorem dX6_isOfForm_138 : decode cX6_isOfForm 138 = .ok (.ireturn, 1) := by decide +kernel
theorem dX6_readsOrder_0 : decode cX6_readsOrder 0 = .ok (.aload_n 0, 1) := by decide +kernel
theorem dX6_readsOrder_1 : decode cX6_readsOrder 1 = .ok (.iconst 0, 1) := by decide +kernel
theorem dX6_readsOrder_2 : decode cX6_readsOrder 2 = .ok (.putfield 175, 3) := by decide +kernel
theorem dX6_readsOrder_5 : decode cX6_readsOrder 5 = .ok (.aload_n 0, 1) := by decide +kernel
theorem dX6_readsOrder_6 : decode cX6_readsOrder 6 = .ok (.invokevirtual 178, 3) := by decide +kernel
theorem dX6_readsOrder_9 : decode cX6_readsOrder 9 = .ok (.ifCond .ne 23, 3) := by decide +kernel
theorem dX6_readsOrder_12 : decode cX6_readsOrder 12 = .ok (.aload_n 0, 1) := by decide +kernel
theorem dX6_readsOrder_13 : decode cX6_readsOrder 13 = .ok (.iconst 1, 1) := by decide +kernel
theorem dX6_readsOrder_14 : decode cX6_readsOrder 14 = .ok (.putfield 175, 3) := by decide +kernel
theorem dX6_readsOrder_17 : decode cX6_readsOrder 17 = .ok (.aload_n 0, 1) := by decide +kernel
theorem dX6_readsOrder_18 : decode cX6_readsOrder 18 = .ok (.aload_n 0, 1) := by decide +kernel
theorem dX6_readsOrder_19 : decode cX6_readsOrder 19 = .ok (.getfield 153, 3) := by decide +kernel
theorem dX6_readsOrder_22 : decode cX6_readsOrder 22 = .ok (.aload_n 0, 1) := by decide +kernel
theorem dX6_readsOrder_23 : decode cX6_readsOrder 23 = .ok (.getfield 146, 3) := by decide +kernel
theorem dX6_readsOrder_26 : decode cX6_readsOrder 26 = .ok (.isub, 1) := by decide +kernel
theorem dX6_readsOrder_27 : decode cX6_readsOrder 27 = .ok (.putfield 182, 3) := by decide +kernel
theorem dX6_readsOrder_30 : decode cX6_readsOrder 30 = .ok (.iconst 0, 1) := by decide +kernel
theorem dX6_readsOrder_31 : decode cX6_readsOrder 31 = .ok (.ireturn, 1) := by decide +kernel
theorem dX6_readsOrder_32 : decode cX6_readsOrder 32 = .ok (.aload_n 0, 1) := by decide +kernel
theorem dX6_readsOrder_33 : decode cX6_readsOrder 33 = .ok (.getfield 162, 3) := by decide +kernel
theorem dX6_readsOrder_36 : decode cX6_readsOrder 36 = .ok (.iconst 4, 1) := by decide +kernel
theorem dX6_readsOrder_37 : decode cX6_readsOrder 37 = .ok (.if_icmp .ne 20, 3) := by decide +kernel
theorem dX6_readsOrder_40 : decode cX6_readsOrder 40 = .ok (.aload_n 0, 1) := by decide +kernel
theorem dX6_readsOrder_41 : decode cX6_readsOrder 41 = .ok (.getfield 165, 3) := by decide +kernel
theorem dX6_readsOrder_44 : decode cX6_readsOrder 44 = .ok (.bipush 50, 2) := by decide +kernel
theorem dX6_readsOrder_46 : decode cX6_readsOrder 46 = .ok (.if_icmp .gt 7, 3) := by decide +kernel
theorem dX6_readsOrder_49 : decode cX6_readsOrder 49 = .ok (.iconst 1, 1) := by decide +kernel
theorem dX6_readsOrder_50 : decode cX6_readsOrder 50 = .ok (.goto 21, 3) := by decide +kernel
theorem dX6_readsOrder_53 : decode cX6_readsOrder 53 = .ok (.iconst 0, 1) := by decide +kernel
theorem dX6_readsOrder_54 : decode cX6_readsOrder 54 = .ok (.goto 17, 3) := by decide +kernel
theorem dX6_readsOrder_57 : decode cX6_readsOrder 57 = .ok (.aload_n 0, 1) := by decide +kernel
theorem dX6_readsOrder_58 : decode cX6_readsOrder 58 = .ok (.getfield 165, 3) := by decide +kernel
theorem dX6_readsOrder_61 : decode cX6_readsOrder 61 = .ok (.bipush 64, 2) := by decide +kernel
theorem dX6_readsOrder_63 : decode cX6_readsOrder 63 = .ok (.if_icmp .ge 7, 3) := by decide +kernel
theorem dX6_readsOrder_66 : decode cX6_readsOrder 66 = .ok (.iconst 1, 1) := by decide +kernel
theorem dX6_readsOrder_67 : decode cX6_readsOrder 67 = .ok (.goto 4, 3) := by decide +kernel
theorem dX6_readsOrder_70 : decode cX6_readsOrder 70 = .ok (.iconst 0, 1) := by decide +kernel
theorem dX6_readsOrder_71 : decode cX6_readsOrder 71 = .ok (.istore_n 1, 1) := by decide +kernel
theorem dX6_readsOrder_72 : decode cX6_readsOrder 72 = .ok (.aload_n 0, 1) := by decide +kernel
theorem dX6_readsOrder_73 : decode cX6_readsOrder 73 = .ok (.getfield 162, 3) := by decide +kernel
theorem dX6_readsOrder_76 : decode cX6_readsOrder 76 = .ok (.iconst 4, 1) := by decide +kernel
theorem dX6_readsOrder_77 : decode cX6_readsOrder 77 = .ok (.if_icmp .eq 16, 3) := by decide +kernel
theorem dX6_readsOrder_80 : decode cX6_readsOrder 80 = .ok (.aload_n 0, 1) := by decide +kernel
theorem dX6_readsOrder_81 : decode cX6_readsOrder 81 = .ok (.getfield 168, 3) := by decide +kernel
theorem dX6_readsOrder_84 : decode cX6_readsOrder 84 = .ok (.iconst 1, 1) := by decide +kernel
theorem dX6_readsOrder_85 : decode cX6_readsOrder 85 = .ok (.bipush 40, 2) := by decide +kernel
theorem dX6_readsOrder_87 : decode cX6_readsOrder 87 = .ok (.invokestatic 42, 3) := by decide +kernel
theorem dX6_readsOrder_90 : decode cX6_readsOrder 90 = .ok (.ifCond .eq 7, 3) := by decide +kernel
theorem dX6_readsOrder_93 : decode cX6_readsOrder 93 = .ok (.iconst 1, 1) := by decide +kernel
theorem dX6_readsOrder_94 : decode cX6_readsOrder 94 = .ok (.goto 4, 3) := by decide +kernel
theorem dX6_readsOrder_97 : decode cX6_readsOrder 97 = .ok (.iconst 0, 1) := by decide +kernel
theorem dX6_readsOrder_98 : decode cX6_readsOrder 98 = .ok (.istore_n 2, 1) := by decide +kernel
theorem dX6_readsOrder_99 : decode cX6_readsOrder 99 = .ok (.iload_n 1, 1) := by decide +kernel
theorem dX6_readsOrder_100 : decode cX6_readsOrder 100 = .ok (.ifCond .eq 7, 3) := by decide +kernel
theorem dX6_readsOrder_103 : decode cX6_readsOrder 103 = .ok (.iload_n 2, 1) := by decide +kernel
theorem dX6_readsOrder_104 : decode cX6_readsOrder 104 = .ok (.ifCond .ne 23, 3) := by decide +kernel
theorem dX6_readsOrder_107 : decode cX6_readsOrder 107 = .ok (.aload_n 0, 1) := by decide +kernel
theorem dX6_readsOrder_108 : decode cX6_readsOrder 108 = .ok (.iconst 2, 1) := by decide +kernel
theorem dX6_readsOrder_109 : decode cX6_readsOrder 109 = .ok (.putfield 175, 3) := by decide +kernel
theorem dX6_readsOrder_112 : decode cX6_readsOrder 112 = .ok (.aload_n 0, 1) := by decide +kernel
theorem dX6_readsOrder_113 : decode cX6_readsOrder 113 = .ok (.iload_n 1, 1) := by decide +kernel
theorem dX6_readsOrder_114 : decode cX6_readsOrder 114 = .ok (.ifCond .eq 7, 3) := by decide +kernel
theorem dX6_readsOrder_117 : decode cX6_readsOrder 117 = .ok (.iconst 1, 1) := by decide +kernel
theorem dX6_readsOrder_118 : decode cX6_readsOrder 118 = .ok (.goto 4, 3) := by decide +kernel
theorem dX6_readsOrder_121 : decode cX6_readsOrder 121 = .ok (.iconst 0, 1) := by decide +kernel
theorem dX6_readsOrder_122 : decode cX6_readsOrder 122 = .ok (.putfield 182, 3) := by decide +kernel
theorem dX6_readsOrder_125 : decode cX6_readsOrder 125 = .ok (.iconst 0, 1) := by decide +kernel
theorem dX6_readsOrder_126 : decode cX6_readsOrder 126 = .ok (.ireturn, 1) := by decide +kernel
theorem dX6_readsOrder_127 : decode cX6_readsOrder 127 = .ok (.iconst 1, 1) := by decide +kernel
theorem dX6_readsOrder_128 : decode cX6_readsOrder 128 = .ok (.ireturn, 1) := by decide +kernel
theorem dX6_hasFault_0 : decode cX6_hasFault 0 = .ok (.aload_n 0, 1) := by decide +kernel
theorem dX6_hasFault_1 : decode cX6_hasFault 1 = .ok (.iconst 0, 1) := by decide +kernel
theorem dX6_hasFault_2 : decode cX6_hasFault 2 = .ok (.putfield 146, 3) := by decide +kernel
theorem dX6_hasFault_5 : decode cX6_hasFault 5 = .ok (.iconst 0, 1) := by decide +kernel
theorem dX6_hasFault_6 : decode cX6_hasFault 6 = .ok (.istore_n 1, 1) := by decide +kernel
theorem dX6_hasFault_7 : decode cX6_hasFault 7 = .ok (.iload_n 1, 1) := by decide +kernel
theorem dX6_hasFault_8 : decode cX6_hasFault 8 = .ok (.ifCond .ne 49, 3) := by decide +kernel
theorem dX6_hasFault_11 : decode cX6_hasFault 11 = .ok (.aload_n 0, 1) := by decide +kernel
theorem dX6_hasFault_12 : decode cX6_hasFault 12 = .ok (.getfield 146, 3) := by decide +kernel
theorem dX6_hasFault_15 : decode cX6_hasFault 15 = .ok (.aload_n 0, 1) := by decide +kernel
theorem dX6_hasFault_16 : decode cX6_hasFault 16 = .ok (.getfield 140, 3) := by decide +kernel
theorem dX6_hasFault_19 : decode cX6_hasFault 19 = .ok (.if_icmp .ge 38, 3) := by decide +kernel
theorem dX6_hasFault_22 : decode cX6_hasFault 22 = .ok (.aload_n 0, 1) := by decide +kernel
theorem dX6_hasFault_23 : decode cX6_hasFault 23 = .ok (.invokevirtual 185, 3) := by decide +kernel
theorem dX6_hasFault_26 : decode cX6_hasFault 26 = .ok (.ifCond .ne 7, 3) := by decide +kernel
theorem dX6_hasFault_29 : decode cX6_hasFault 29 = .ok (.iconst 1, 1) := by decide +kernel
theorem dX6_hasFault_30 : decode cX6_hasFault 30 = .ok (.goto 4, 3) := by decide +kernel
theorem dX6_hasFault_33 : decode cX6_hasFault 33 = .ok (.iconst 0, 1) := by decide +kernel
theorem dX6_hasFault_34 : decode cX6_hasFault 34 = .ok (.istore_n 1, 1) := by decide +kernel
theorem dX6_hasFault_35 : decode cX6_hasFault 35 = .ok (.aload_n 0, 1) := by decide +kernel
theorem dX6_hasFault_36 : decode cX6_hasFault 36 = .ok (.iload_n 1, 1) := by decide +kernel
theorem dX6_hasFault_37 : decode cX6_hasFault 37 = .ok (.ifCond .eq 10, 3) := by decide +kernel
theorem dX6_hasFault_40 : decode cX6_hasFault 40 = .ok (.aload_n 0, 1) := by decide +kernel
theorem dX6_hasFault_41 : decode cX6_hasFault 41 = .ok (.getfield 146, 3) := by decide +kernel
theorem dX6_hasFault_44 : decode cX6_hasFault 44 = .ok (.goto 7, 3) := by decide +kernel
theorem dX6_hasFault_47 : decode cX6_hasFault 47 = .ok (.aload_n 0, 1) := by decide +kernel
theorem dX6_hasFault_48 : decode cX6_hasFault 48 = .ok (.getfield 153, 3) := by decide +kernel
theorem dX6_hasFault_51 : decode cX6_hasFault 51 = .ok (.putfield 146, 3) := by decide +kernel
theorem dX6_hasFault_54 : decode cX6_hasFault 54 = .ok (.goto (-47), 3) := by decide +kernel
theorem dX6_hasFault_57 : decode cX6_hasFault 57 = .ok (.iload_n 1, 1) := by decide +kernel
theorem dX6_hasFault_58 : decode cX6_hasFault 58 = .ok (.ireturn, 1) := by decide +kernel
theorem dX6_fault_0 : decode cX6_fault 0 = .ok (.iload_n 1, 1) := by decide +kernel
theorem dX6_fault_1 : decode cX6_fault 1 = .ok (.iconst 0, 1) := by decide +kernel
theorem dX6_fault_2 : decode cX6_fault 2 = .ok (.iconst 2, 1) := by decide +kernel
theorem dX6_fault_3 : decode cX6_fault 3 = .ok (.invokestatic 42, 3) := by decide +kernel
theorem dX6_fault_6 : decode cX6_fault 6 = .ok (.ifCond .ne 6, 3) := by decide +kernel
theorem dX6_fault_9 : decode cX6_fault 9 = .ok (.ldc 77, 2) := by decide +kernel
theorem dX6_fault_11 : decode cX6_fault 11 = .ok (.ireturn, 1) := by decide +kernel
theorem dX6_fault_12 : decode cX6_fault 12 = .ok (.aload_n 0, 1) := by decide +kernel
theorem dX6_fault_13 : decode cX6_fault 13 = .ok (.invokevirtual 188, 3) := by decide +kernel
theorem dX6_fault_16 : decode cX6_fault 16 = .ok (.ifCond .ne 6, 3) := by decide +kernel
theorem dX6_fault_19 : decode cX6_fault 19 = .ok (.ldc 129, 2) := by decide +kernel
theorem dX6_fault_21 : decode cX6_fault 21 = .ok (.ireturn, 1) := by decide +kernel
theorem dX6_fault_22 : decode cX6_fault 22 = .ok (.iload_n 1, 1) := by decide +kernel
theorem dX6_fault_23 : decode cX6_fault 23 = .ok (.ifCond .ne 10, 3) := by decide +kernel
theorem dX6_fault_26 : decode cX6_fault 26 = .ok (.aload_n 0, 1) := by decide +kernel
theorem dX6_fault_27 : decode cX6_fault 27 = .ok (.getfield 146, 3) := by decide +kernel
theorem dX6_fault_30 : decode cX6_fault 30 = .ok (.goto 19, 3) := by decide +kernel
theorem dX6_fault_33 : decode cX6_fault 33 = .ok (.iload_n 1, 1) := by decide +kernel
theorem dX6_fault_34 : decode cX6_fault 34 = .ok (.iconst 1, 1) := by decide +kernel
theorem dX6_fault_35 : decode cX6_fault 35 = .ok (.if_icmp .ne 10, 3) := by decide +kernel
theorem dX6_fault_38 : decode cX6_fault 38 = .ok (.aload_n 0, 1) := by decide +kernel
theorem dX6_fault_39 : decode cX6_fault 39 = .ok (.getfield 175, 3) := by decide +kernel
theorem dX6_fault_42 : decode cX6_fault 42 = .ok (.goto 7, 3) := by decide +kernel
theorem dX6_fault_45 : decode cX6_fault 45 = .ok (.aload_n 0, 1) := by decide +kernel
theorem dX6_fault_46 : decode cX6_fault 46 = .ok (.getfield 182, 3) := by decide +kernel
theorem dX6_fault_49 : decode cX6_fault 49 = .ok (.ireturn, 1) := by decide +kernel
theorem dX6_does_0 : decode cX6_does 0 = .ok (.aload_n 0, 1) := by decide +kernel
theorem dX6_does_1 : decode cX6_does 1 = .ok (.getfield 162, 3) := by decide +kernel
theorem dX6_does_4 : decode cX6_does 4 = .ok (.iconst 4, 1) := by decide +kernel
theorem dX6_does_5 : decode cX6_does 5 = .ok (.if_icmp .ne 15, 3) := by decide +kernel
theorem dX6_does_8 : decode cX6_does 8 = .ok (.aload_n 0, 1) := by decide +kernel
theorem dX6_does_9 : decode cX6_does 9 = .ok (.getfield 7, 3) := by decide +kernel
theorem dX6_does_12 : decode cX6_does 12 = .ok (.iconst 1, 1) := by decide +kernel
theorem dX6_does_13 : decode cX6_does 13 = .ok (.aload_n 0, 1) := by decide +kernel
theorem dX6_does_14 : decode cX6_does 14 = .ok (.getfield 165, 3) := by decide +kernel
theorem dX6_does_17 : decode cX6_does 17 = .ok (.iastore, 1) := by decide +kernel
theorem dX6_does_18 : decode cX6_does 18 = .ok (.iconst 0, 1) := by decide +kernel
theorem dX6_does_19 : decode cX6_does 19 = .ok (.ireturn, 1) := by decide +kernel
theorem dX6_does_20 : decode cX6_does 20 = .ok (.iconst 0, 1) := by decide +kernel
theorem dX6_does_21 : decode cX6_does 21 = .ok (.istore_n 1, 1) := by decide +kernel
theorem dX6_does_22 : decode cX6_does 22 = .ok (.iload_n 1, 1) := by decide +kernel
theorem dX6_does_23 : decode cX6_does 23 = .ok (.aload_n 0, 1) := by decide +kernel
theorem dX6_does_24 : decode cX6_does 24 = .ok (.getfield 168, 3) := by decide +kernel
theorem dX6_does_27 : decode cX6_does 27 = .ok (.if_icmp .ge 74, 3) := by decide +kernel
theorem dX6_does_30 : decode cX6_does 30 = .ok (.aload_n 0, 1) := by decide +kernel
theorem dX6_does_31 : decode cX6_does 31 = .ok (.getfield 162, 3) := by decide +kernel
theorem dX6_does_34 : decode cX6_does 34 = .ok (.ifCond .ne 7, 3) := by decide +kernel
theorem dX6_does_37 : decode cX6_does 37 = .ok (.iconst 1, 1) := by decide +kernel
theorem dX6_does_38 : decode cX6_does 38 = .ok (.goto 46, 3) := by decide +kernel
theorem dX6_does_41 : decode cX6_does 41 = .ok (.aload_n 0, 1) := by decide +kernel
theorem dX6_does_42 : decode cX6_does 42 = .ok (.getfield 162, 3) := by decide +kernel
theorem dX6_does_45 : decode cX6_does 45 = .ok (.iconst 1, 1) := by decide +kernel
theorem dX6_does_46 : decode cX6_does 46 = .ok (.if_icmp .ne 7, 3) := by decide +kernel
theorem dX6_does_49 : decode cX6_does 49 = .ok (.iconst 0, 1) := by decide +kernel
theorem dX6_does_50 : decode cX6_does 50 = .ok (.goto 34, 3) := by decide +kernel
theorem dX6_does_53 : decode cX6_does 53 = .ok (.aload_n 0, 1) := by decide +kernel
theorem dX6_does_54 : decode cX6_does 54 = .ok (.getfield 162, 3) := by decide +kernel
theorem dX6_does_57 : decode cX6_does 57 = .ok (.iconst 2, 1) := by decide +kernel
theorem dX6_does_58 : decode cX6_does 58 = .ok (.if_icmp .ne 11, 3) := by decide +kernel
theorem dX6_does_61 : decode cX6_does 61 = .ok (.iconst 1, 1) := by decide +kernel
theorem dX6_does_62 : decode cX6_does 62 = .ok (.iload_n 1, 1) := by decide +kernel
theorem dX6_does_63 : decode cX6_does 63 = .ok (.iconst 2, 1) := by decide +kernel
theorem dX6_does_64 : decode cX6_does 64 = .ok (.irem, 1) := by decide +kernel
theorem dX6_does_65 : decode cX6_does 65 = .ok (.isub, 1) := by decide +kernel
theorem dX6_does_66 : decode cX6_does 66 = .ok (.goto 18, 3) := by decide +kernel
theorem dX6_does_69 : decode cX6_does 69 = .ok (.iload_n 1, 1) := by decide +kernel
theorem dX6_does_70 : decode cX6_does 70 = .ok (.iconst 1, 1) := by decide +kernel
theorem dX6_does_71 : decode cX6_does 71 = .ok (.iadd, 1) := by decide +kernel
theorem dX6_does_72 : decode cX6_does 72 = .ok (.aload_n 0, 1) := by decide +kernel
theorem dX6_does_73 : decode cX6_does 73 = .ok (.getfield 168, 3) := by decide +kernel
theorem dX6_does_76 : decode cX6_does 76 = .ok (.if_icmp .ge 7, 3) := by decide +kernel
theorem dX6_does_79 : decode cX6_does 79 = .ok (.iconst 1, 1) := by decide +kernel
theorem dX6_does_80 : decode cX6_does 80 = .ok (.goto 4, 3) := by decide +kernel
theorem dX6_does_83 : decode cX6_does 83 = .ok (.iconst 0, 1) := by decide +kernel
theorem dX6_does_84 : decode cX6_does 84 = .ok (.istore_n 2, 1) := by decide +kernel
theorem dX6_does_85 : decode cX6_does 85 = .ok (.aload_n 0, 1) := by decide +kernel
theorem dX6_does_86 : decode cX6_does 86 = .ok (.aload_n 0, 1) := by decide +kernel
theorem dX6_does_87 : decode cX6_does 87 = .ok (.getfield 165, 3) := by decide +kernel
theorem dX6_does_90 : decode cX6_does 90 = .ok (.iload_n 2, 1) := by decide +kernel
theorem dX6_does_91 : decode cX6_does 91 = .ok (.invokevirtual 123, 3) := by decide +kernel
theorem dX6_does_94 : decode cX6_does 94 = .ok (.pop, 1) := by decide +kernel
theorem dX6_does_95 : decode cX6_does 95 = .ok (.iinc 1 1, 3) := by decide +kernel
theorem dX6_does_98 : decode cX6_does 98 = .ok (.goto (-76), 3) := by decide +kernel
theorem dX6_does_101 : decode cX6_does 101 = .ok (.aload_n 0, 1) := by decide +kernel
theorem dX6_does_102 : decode cX6_does 102 = .ok (.getfield 168, 3) := by decide +kernel
theorem dX6_does_105 : decode cX6_does 105 = .ok (.ireturn, 1) := by decide +kernel
theorem dX6_play_0 : decode cX6_play 0 = .ok (.aload_n 0, 1) := by decide +kernel
theorem dX6_play_1 : decode cX6_play 1 = .ok (.invokevirtual 188, 3) := by decide +kernel
theorem dX6_play_4 : decode cX6_play 4 = .ok (.ifCond .eq 6, 3) := by decide +kernel
theorem dX6_play_7 : decode cX6_play 7 = .ok (.ldc 89, 2) := by decide +kernel
theorem dX6_play_9 : decode cX6_play 9 = .ok (.ireturn, 1) := by decide +kernel
theorem dX6_play_10 : decode cX6_play 10 = .ok (.aload_n 0, 1) := by decide +kernel
theorem dX6_play_11 : decode cX6_play 11 = .ok (.invokevirtual 78, 3) := by decide +kernel
theorem dX6_play_14 : decode cX6_play 14 = .ok (.iconst 0, 1) := by decide +kernel
theorem dX6_play_15 : decode cX6_play 15 = .ok (.istore_n 1, 1) := by decide +kernel
theorem dX6_play_16 : decode cX6_play 16 = .ok (.aload_n 0, 1) := by decide +kernel
theorem dX6_play_17 : decode cX6_play 17 = .ok (.iconst 0, 1) := by decide +kernel
theorem dX6_play_18 : decode cX6_play 18 = .ok (.putfield 146, 3) := by decide +kernel
theorem dX6_play_21 : decode cX6_play 21 = .ok (.aload_n 0, 1) := by decide +kernel
theorem dX6_play_22 : decode cX6_play 22 = .ok (.getfield 146, 3) := by decide +kernel
theorem dX6_play_25 : decode cX6_play 25 = .ok (.aload_n 0, 1) := by decide +kernel
theorem dX6_play_26 : decode cX6_play 26 = .ok (.getfield 140, 3) := by decide +kernel
theorem dX6_play_29 : decode cX6_play 29 = .ok (.if_icmp .ge 26, 3) := by decide +kernel
theorem dX6_play_32 : decode cX6_play 32 = .ok (.aload_n 0, 1) := by decide +kernel
theorem dX6_play_33 : decode cX6_play 33 = .ok (.invokevirtual 185, 3) := by decide +kernel
theorem dX6_play_36 : decode cX6_play 36 = .ok (.pop, 1) := by decide +kernel
theorem dX6_play_37 : decode cX6_play 37 = .ok (.iload_n 1, 1) := by decide +kernel
theorem dX6_play_38 : decode cX6_play 38 = .ok (.aload_n 0, 1) := by decide +kernel
theorem dX6_play_39 : decode cX6_play 39 = .ok (.invokevirtual 191, 3) := by decide +kernel
theorem dX6_play_42 : decode cX6_play 42 = .ok (.iadd, 1) := by decide +kernel
theorem dX6_play_43 : decode cX6_play 43 = .ok (.istore_n 1, 1) := by decide +kernel
theorem dX6_play_44 : decode cX6_play 44 = .ok (.aload_n 0, 1) := by decide +kernel
theorem dX6_play_45 : decode cX6_play 45 = .ok (.aload_n 0, 1) := by decide +kernel
theorem dX6_play_46 : decode cX6_play 46 = .ok (.getfield 153, 3) := by decide +kernel
theorem dX6_play_49 : decode cX6_play 49 = .ok (.putfield 146, 3) := by decide +kernel
theorem dX6_play_52 : decode cX6_play 52 = .ok (.goto (-31), 3) := by decide +kernel
theorem dX6_play_55 : decode cX6_play 55 = .ok (.iload_n 1, 1) := by decide +kernel
theorem dX6_play_56 : decode cX6_play 56 = .ok (.ireturn, 1) := by decide +kernel
end
section
/-! the rules of fields and of calls, a rule a link of the constant pools -/
theorem enc_0 (X : fX) (row : Nat → Int32) (e : Int64) : enc X 0 row e = .inr (5, [ra X (iS 0), ra X (iS 1), ra X 1, ra X 3]) := rfl
theorem enc_1 (X : fX) (row : Nat → Int32) (e : Int64) : enc X 1 row e = .inr (2, [ra X 2, .int (row 1), .int (row 2)]) := rfl
theorem enc_2 (X : fX) (row : Nat → Int32) (e : Int64) : enc X 2 row e = .inl (X.2.2.1 4, 4, .inr (.inr (.inr (.inr (fun j => some (X.2.1 (iS (2 + j)))))))) := rfl
theorem enc_3 (X : fX) (row : Nat → Int32) (e : Int64) : enc X 3 row e = .inr (4, [ra X 4, ra X 5, .int (row 2), .int (row 3), .int (row 4), .int (row 5), .int (row 6), .int (row 7)]) := rfl
theorem enc_4 (X : fX) (row : Nat → Int32) (e : Int64) : enc X 4 row e = .inl (X.2.2.1 1, 80, .inl row) := rfl
theorem enc_5 (X : fX) (row : Nat → Int32) (e : Int64) : enc X 5 row e = .inl (X.2.2.1 0, 2, .inl row) := rfl
theorem enc_150 (X : fX) (row : Nat → Int32) (e : Int64) : enc X 150 row e = .inr (6, [ra X 151, ra X 152, ra X 153, .int (row 3), ra X 154, .int (row 5), ra X 155, ra X 156, ra X 157, ra X 158, .int (row 10), .int (row 11), .int (row 12), .int (row 13), .int (row 14), .int (row 15), .int (row 16)]) := rfl
theorem enc_151 (X : fX) (row : Nat → Int32) (e : Int64) : enc X 151 row e = .inl (X.2.2.1 0, 349, .inl row) := rfl
theorem enc_152 (X : fX) (row : Nat → Int32) (e : Int64) : enc X 152 row e = .inl (X.2.2.1 0, 349, .inl row) := rfl
theorem enc_153 (X : fX) (row : Nat → Int32) (e : Int64) : enc X 153 row e = .inl (X.2.2.1 0, 1396, .inl row) := rfl
theorem enc_154 (X : fX) (row : Nat → Int32) (e : Int64) : enc X 154 row e = .inl (X.2.2.1 0, 80, .inl row) := rfl
theorem enc_155 (X : fX) (row : Nat → Int32) (e : Int64) : enc X 155 row e = .inl (X.2.2.1 0, 6, .inl row) := rfl
theorem enc_156 (X : fX) (row : Nat → Int32) (e : Int64) : enc X 156 row e = .inl (X.2.2.1 0, 6, .inl row) := rfl
theorem enc_157 (X : fX) (row : Nat → Int32) (e : Int64) : enc X 157 row e = .inl (X.2.2.1 0, 6, .inl row) := rfl
theorem enc_158 (X : fX) (row : Nat → Int32) (e : Int64) : enc X 158 row e = .inl (X.2.2.1 0, 6, .inl row) := rfl
theorem gd_w {w : Cond} (h : w ∈ lw_gd) : w ∈ lw_gd ∧ ((w.onTables && w.keeps) = true ∨ ∃ ty, w = .arrayClass ty) := ⟨h, good_of_word (List.mem_filter.mp h).2⟩
theorem gd_T {y : MethodName} {cc : ByteArray} {mL : Nat} {ret : Option FieldType} (h5 : Cond.code y cc mL ret ∈ lw_gd) : GoodIn lw_gd (fT y cc mL ret) := fun w hw => by
  rcases List.mem_cons.mp hw with rfl | hw
  · exact gd_w h5
  · exact gd_w hw
theorem gd_V {own C : String} {idx mL : Nat} {y : MethodName} {cc : ByteArray} {ret : Option FieldType} (h1 : Cond.methodLink own idx y ∈ lw_gd) (h2 : Cond.instanceMethod y ∈ lw_gd) (h3 : Cond.selects C y y ∈ lw_gd) (h4 : Cond.initialized C ∈ lw_gd) (h5 : Cond.code y cc mL ret ∈ lw_gd) : GoodIn lw_gd (wsV own idx C y (fT y cc mL ret)) := fun w hw => by
  rcases List.mem_append.mp hw with hw | hw
  · simp only [List.mem_cons, List.not_mem_nil, or_false] at hw
    rcases hw with rfl | rfl | rfl | rfl
    · exact gd_w h1
    · exact gd_w h2
    · exact gd_w h3
    · exact gd_w h4
  · exact gd_T h5 w hw
section CALLS
variable {l : Launch} {x : fC} {X : fX} {σ : fM} {L : List (Nat × Value)} {st : List Value} {pc : Nat} {cc : ByteArray} {own : String} {d : Nat}
theorem fA_in (h : Ok l x X cc own d) : ∀ q, fA X q → xA x q := fun q ⟨k, hk, e⟩ => by rw [e]; exact h.hA.2 k hk
theorem g_start (h : Ok l x X cc own d) {H : Heap} {locs : List Loc} (hP : va_P X.1 vwCl (wl X σ) H) (hS : va_S (xA x) (xs x).heap H locs) (U : State) (hU : U.heap = H) (hW : (xs x).WarmedH U.vm) : fI X σ U := by
  refine ⟨by rw [hU]; exact hP, va_K.moved hW.alike h.hK, ⟨h.hA.1, fun k hk => ⟨k, hk, rfl⟩⟩, ?_, h.hZ.2.warm hW⟩
  rw [hU]
  exact ((h.hZ.1.kept hS.2.1).narrow (fA_in h)).moved hW.alike
theorem g_cont (h : Ok l x X cc own d) {H : Heap} {locs : List Loc} {ls : Array Slot} (hS : va_S (xA x) (xs x).heap H locs) (hl : lv_has ls (xL x) L) {v : Option Value} {σ' : fM} {rest : List Value} {a : Array Value}
    (hr : va_Run (xp x) (xl x) (xe x) (xR x) (xs x) (xm x) (xa x) (xb x) (xM x) (xc x) H locs (xk x) (xn x) 0 0 (F0 (xm x) pc ls st) rest (fQc X v σ' a) (fA X)) (kk : G x X σ' L (v.toList ++ rest) (pc + 3)) :
    W (xp x) (xl x) (xe x) (xR x) (xs x) (xm x) (xa x) (xb x) (xM x) (xc x) H locs (xk x) (xn x) (xQ x) (F0 (xm x) pc ls st) := by
  intro T hT X0
  obtain ⟨v0, st₀, t, T', L0, h0, X', hL, e1, e2, ⟨⟨hv, hp⟩, hz, hk⟩, st⟩ := hr T hT X0
  cases hv
  rw [h0] at hz hk
  have hA : ∀ q, q < H.size → fA X q → xA x q := fun q _ hq => fA_in h q hq
  obtain ⟨t2, a1, b1⟩ := kk T'.heap (locs ++ L0) ls (by rw [e1]; exact hp) ⟨Nat.le_trans hS.1 (by rw [e1]; exact hz), fun q h1 h2 => by rw [e1, hk q (Nat.lt_of_lt_of_le h1 hS.1) (fun z => h2 (hA q (Nat.lt_of_lt_of_le h1 hS.1) z))]; exact hS.2.1 q h1 h2, fun q hq => by
      rcases List.mem_append.mp hq with hh | hh
      · exact hS.2.2 q hh
      · exact fA_in h _ (hL q hh)⟩ hl T' rfl X'
  exact ⟨t2, st t2 a1, b1⟩
theorem g_room (h : Ok l x X cc own d) {d' mL : Nat} (hdd : d' < d) (hmL : mL ≤ 11) : (fR d').frames + 1 ≤ (xR x).frames ∧ 8 + (mL + 11) + (fR d').locals ≤ (xR x).locals := by
  have := h.hF
  show d' + 1 ≤ _ ∧ 8 + (mL + 11) + 30 * d' ≤ _
  omega
theorem g_callV (h : Ok l x X cc own d) {y : MethodName} {cy : ByteArray} {mL idx d' n k ci : Nat} {ret : Option FieldType} {av : List Value} {v : Option Value} {σ' : fM} {rest : List Value} {C : String} {q : vw_C} {fs : List Value}
    (hG : GoodIn lw_gd (wsV own idx C y (fT y cy mL ret))) (hy : y.cls = C ∧ y.cls ≠ "java/lang/invoke/MethodHandle" ∧ y.cls ≠ "java/lang/invoke/VarHandle" ∧ (parseMethodDescriptor y.desc).map (fun d => d.parameters.length) = some n) (hcl : vwCl[ci]? = some q) (hq : q.1 = C) (hk : k < 159) (he : enc X k (σ.1 k) (σ.2 k) = .inr (ci, fs)) (hmL : mL ≤ 11) (hn : av.length = n)
    (hC : Ct l X y cy mL ret d' (ra X k :: av) σ v σ') (hd : decode cc pc = .ok (.invokevirtual idx, 3)) (hst : st = av.reverse ++ ra X k :: rest) (hcat : (rest.map fun v => v.category).sum ≤ 8) (hdd : d' < d) (kk : G x X σ' L (v.toList ++ rest) (pc + 3)) : G x X σ L st pc := fun H locs ls hP hS hl => by
  subst hq
  refine g_cont h hS hl (va_runV (As := av) (rest := rest) (b := X.2.1 k) ⟨h.hx, h.hb, h.hml, h.ho, h.hts⟩ (by have hC' := hC; rw [← h.1.1] at hC'; exact hC') (cwV n h.hts hG rfl rfl rfl hy (g_room h hdd hmL)) ⟨fPc_blind _ _ _, va_recv (q0 := k) h.hK hP hcl (by rw [wl_get hk, he]), fun U hU hW => ⟨rfl, g_start h hP hS U hU hW⟩⟩ rfl hn hl.1 hst (lv_room hcat) hd h.hC) kk
theorem g_callS (h : Ok l x X cc own d) {y : MethodName} {cy : ByteArray} {mL idx d' n : Nat} {ret : Option FieldType} {av : List Value} {v : Option Value} {σ' : fM} {rest : List Value}
    (hG : GoodIn lw_gd (fT y cy mL ret)) (hl1 : Cond.methodLink own idx y ∈ lw_gd) (hs1 : Cond.static y ∈ lw_gd) (hi1 : Cond.initialized y.cls ∈ lw_gd) (hy : y.cls ≠ "java/lang/invoke/MethodHandle" ∧ y.cls ≠ "java/lang/invoke/VarHandle" ∧ (parseMethodDescriptor y.desc).map (fun d => d.parameters.length) = some n) (hmL : mL ≤ 11) (hn : av.length = n)
    (hC : Ct l X y cy mL ret d' av σ v σ') (hd : decode cc pc = .ok (.invokestatic idx, 3)) (hst : st = av.reverse ++ rest) (hcat : (rest.map fun v => v.category).sum ≤ 8) (hdd : d' < d) (kk : G x X σ' L (v.toList ++ rest) (pc + 3)) : G x X σ L st pc := fun H locs ls hP hS hl => by
  refine g_cont h hS hl (va_runS (As := av) (rest := rest) ⟨h.hx, h.hb, h.hml, h.ho, h.hts⟩ (by have hC' := hC; rw [← h.1.1] at hC'; exact hC') ⟨callB_of n h.hts hG rfl rfl rfl (h.hts _ hi1) (h.hts _ hl1) hy (g_room h hdd hmL), h.hts _ hs1⟩ ⟨fPc_blind _ _ _, fun U hU hW => ⟨rfl, g_start h hP hS U hU hW⟩⟩ rfl hn hl.1 hst (lv_room hcat) hd h.hC) kk
/-- a static method of a nest mate -/
theorem g_callSN (h : Ok l x X cc own d) {y : MethodName} {cy : ByteArray} {mL idx d' n : Nat} {ret : Option FieldType} {av : List Value} {v : Option Value} {σ' : fM} {rest : List Value} {host : String}
    (hG : GoodIn lw_gd (fT y cy mL ret)) (hl1 : va_Nw (.methodLinkNest own idx y host) (xs x)) (hs1 : Cond.static y ∈ lw_gd) (hi1 : Cond.initialized y.cls ∈ lw_gd) (hy : y.cls ≠ "java/lang/invoke/MethodHandle" ∧ y.cls ≠ "java/lang/invoke/VarHandle" ∧ (parseMethodDescriptor y.desc).map (fun d => d.parameters.length) = some n) (hmL : mL ≤ 11) (hn : av.length = n)
    (hC : Ct l X y cy mL ret d' av σ v σ') (hd : decode cc pc = .ok (.invokestatic idx, 3)) (hst : st = av.reverse ++ rest) (hcat : (rest.map fun v => v.category).sum ≤ 8) (hdd : d' < d) (kk : G x X σ' L (v.toList ++ rest) (pc + 3)) : G x X σ L st pc := fun H locs ls hP hS hl => by
  refine g_cont h hS hl (va_runSN (As := av) (rest := rest) (Ts := lw_gd) ⟨h.hx, h.hb, h.hml, h.ho, h.hts⟩ (by have hC' := hC; rw [← h.1.1] at hC'; exact hC') ⟨va_cnB n h.hts hG rfl rfl rfl hl1 (h.hts _ hi1) hy (g_room h hdd hmL), h.hts _ hs1, trivial⟩ ⟨fPc_blind _ _ _, fun U hU hW => ⟨rfl, g_start h hP hS U hU hW⟩⟩ rfl hn hl.1 hst (lv_room hcat) hd h.hC) kk

theorem gf1_15 (h : Ok l x X cc RX1 d) {s i : Nat} (hs : s < 6) (hi : i < 6) (hd : decode cc pc = .ok (.getfield 15, 3)) (k : G x X σ L (.int (σ.1 (iO s i) 0) :: st) (pc + 3)) : G x X σ L (ra X (iO s i) :: st) pc := fun H locs ls hP hS hl => va_get (D := X.1) (ci := 1) (C := RX1) (T := TX1) (N := 12) h.hx h.hb h.hts lw_x1 h.ho h.hK hP (iO s i) (by rw [wl_get (iO_lt hs hi), enc_O X hs hi]) rfl 0 (by decide) (h.hts (.fieldLink RX1 15 "BranchBets$Oracle" "kind" "I") (lw_in 35 (by decide +kernel) rfl)) (fun _ h9 => h9) rfl hd (k H locs ls hP hS hl)
theorem gp1_15 (h : Ok l x X cc RX1 d) {s i : Nat} (hs : s < 6) (hi : i < 6) {v : Int32} (hd : decode cc pc = .ok (.putfield 15, 3)) (k : G x X (pu σ (iO s i) 0 v) L st (pc + 3)) : G x X σ L (.int v :: ra X (iO s i) :: st) pc := fun H locs ls hP hS hl => va_put (D := X.1) (ci := 1) (v := .int v) (ty := .int) (C := RX1) (T := TX1) (N := 12) h.hx h.hb h.hts lw_x1 tyX1 tyX1_ok nmX1 h.ho h.hK hP (wl_D h.hA σ) hS (iO s i) (by rw [wl_get (iO_lt hs hi), enc_O X hs hi]) rfl 0 (by decide) (h.hts (.fieldLink RX1 15 "BranchBets$Oracle" "kind" "I") (lw_in 35 (by decide +kernel) rfl)) (fun _ h9 => h9) rfl (by decide +kernel) rfl rfl (Nat.le_of_ble_eq_true rfl) hd (fun H1 locs1 hP1 hD1 hS1 => k H1 locs1 ls (by rw [wl_set (σ' := pu σ (iO s i) 0 v) (by rw [enc_O X hs hi]; simp [pu]) (fun k' hne => pu_ne k' hne) (fun _ _ => rfl)] at hP1; exact hP1) hS1 hl)
theorem gf5_114 (h : Ok l x X cc RX5 d) {s i : Nat} (hs : s < 6) (hi : i < 6) (hd : decode cc pc = .ok (.getfield 114, 3)) (k : G x X σ L (.int (σ.1 (iO s i) 0) :: st) (pc + 3)) : G x X σ L (ra X (iO s i) :: st) pc := fun H locs ls hP hS hl => va_get (D := X.1) (ci := 1) (C := RX1) (T := TX1) (N := 12) h.hx h.hb h.hts lw_x1 h.ho h.hK hP (iO s i) (by rw [wl_get (iO_lt hs hi), enc_O X hs hi]) rfl 0 (by decide) (h.hts (.fieldLink RX5 114 "BranchBets$Oracle" "kind" "I") (lw_in 36 (by decide +kernel) rfl)) (fun _ h9 => h9) rfl hd (k H locs ls hP hS hl)
theorem gp5_114 (h : Ok l x X cc RX5 d) {s i : Nat} (hs : s < 6) (hi : i < 6) {v : Int32} (hd : decode cc pc = .ok (.putfield 114, 3)) (k : G x X (pu σ (iO s i) 0 v) L st (pc + 3)) : G x X σ L (.int v :: ra X (iO s i) :: st) pc := fun H locs ls hP hS hl => va_put (D := X.1) (ci := 1) (v := .int v) (ty := .int) (C := RX1) (T := TX1) (N := 12) h.hx h.hb h.hts lw_x1 tyX1 tyX1_ok nmX1 h.ho h.hK hP (wl_D h.hA σ) hS (iO s i) (by rw [wl_get (iO_lt hs hi), enc_O X hs hi]) rfl 0 (by decide) (h.hts (.fieldLink RX5 114 "BranchBets$Oracle" "kind" "I") (lw_in 36 (by decide +kernel) rfl)) (fun _ h9 => h9) rfl (by decide +kernel) rfl rfl (Nat.le_of_ble_eq_true rfl) hd (fun H1 locs1 hP1 hD1 hS1 => k H1 locs1 ls (by rw [wl_set (σ' := pu σ (iO s i) 0 v) (by rw [enc_O X hs hi]; simp [pu]) (fun k' hne => pu_ne k' hne) (fun _ _ => rfl)] at hP1; exact hP1) hS1 hl)
theorem gf3_104 (h : Ok l x X cc RX3 d) {s i : Nat} (hs : s < 6) (hi : i < 6) (hd : decode cc pc = .ok (.getfield 104, 3)) (k : G x X σ L (.int (σ.1 (iO s i) 0) :: st) (pc + 3)) : G x X σ L (ra X (iO s i) :: st) pc := fun H locs ls hP hS hl => va_get (D := X.1) (ci := 1) (C := RX1) (T := TX1) (N := 12) h.hx h.hb h.hts lw_x1 h.ho h.hK hP (iO s i) (by rw [wl_get (iO_lt hs hi), enc_O X hs hi]) rfl 0 (by decide) (h.hts (.fieldLink RX3 104 "BranchBets$Oracle" "kind" "I") (lw_in 37 (by decide +kernel) rfl)) (fun _ h9 => h9) rfl hd (k H locs ls hP hS hl)
theorem gp3_104 (h : Ok l x X cc RX3 d) {s i : Nat} (hs : s < 6) (hi : i < 6) {v : Int32} (hd : decode cc pc = .ok (.putfield 104, 3)) (k : G x X (pu σ (iO s i) 0 v) L st (pc + 3)) : G x X σ L (.int v :: ra X (iO s i) :: st) pc := fun H locs ls hP hS hl => va_put (D := X.1) (ci := 1) (v := .int v) (ty := .int) (C := RX1) (T := TX1) (N := 12) h.hx h.hb h.hts lw_x1 tyX1 tyX1_ok nmX1 h.ho h.hK hP (wl_D h.hA σ) hS (iO s i) (by rw [wl_get (iO_lt hs hi), enc_O X hs hi]) rfl 0 (by decide) (h.hts (.fieldLink RX3 104 "BranchBets$Oracle" "kind" "I") (lw_in 37 (by decide +kernel) rfl)) (fun _ h9 => h9) rfl (by decide +kernel) rfl rfl (Nat.le_of_ble_eq_true rfl) hd (fun H1 locs1 hP1 hD1 hS1 => k H1 locs1 ls (by rw [wl_set (σ' := pu σ (iO s i) 0 v) (by rw [enc_O X hs hi]; simp [pu]) (fun k' hne => pu_ne k' hne) (fun _ _ => rfl)] at hP1; exact hP1) hS1 hl)
theorem gf1_19 (h : Ok l x X cc RX1 d) {s i : Nat} (hs : s < 6) (hi : i < 6) (hd : decode cc pc = .ok (.getfield 19, 3)) (k : G x X σ L (.int (σ.1 (iO s i) 1) :: st) (pc + 3)) : G x X σ L (ra X (iO s i) :: st) pc := fun H locs ls hP hS hl => va_get (D := X.1) (ci := 1) (C := RX1) (T := TX1) (N := 12) h.hx h.hb h.hts lw_x1 h.ho h.hK hP (iO s i) (by rw [wl_get (iO_lt hs hi), enc_O X hs hi]) rfl 1 (by decide) (h.hts (.fieldLink RX1 19 "BranchBets$Oracle" "number" "I") (lw_in 38 (by decide +kernel) rfl)) (fun _ h9 => h9) rfl hd (k H locs ls hP hS hl)
theorem gp1_19 (h : Ok l x X cc RX1 d) {s i : Nat} (hs : s < 6) (hi : i < 6) {v : Int32} (hd : decode cc pc = .ok (.putfield 19, 3)) (k : G x X (pu σ (iO s i) 1 v) L st (pc + 3)) : G x X σ L (.int v :: ra X (iO s i) :: st) pc := fun H locs ls hP hS hl => va_put (D := X.1) (ci := 1) (v := .int v) (ty := .int) (C := RX1) (T := TX1) (N := 12) h.hx h.hb h.hts lw_x1 tyX1 tyX1_ok nmX1 h.ho h.hK hP (wl_D h.hA σ) hS (iO s i) (by rw [wl_get (iO_lt hs hi), enc_O X hs hi]) rfl 1 (by decide) (h.hts (.fieldLink RX1 19 "BranchBets$Oracle" "number" "I") (lw_in 38 (by decide +kernel) rfl)) (fun _ h9 => h9) rfl (by decide +kernel) rfl rfl (Nat.le_of_ble_eq_true rfl) hd (fun H1 locs1 hP1 hD1 hS1 => k H1 locs1 ls (by rw [wl_set (σ' := pu σ (iO s i) 1 v) (by rw [enc_O X hs hi]; simp [pu]) (fun k' hne => pu_ne k' hne) (fun _ _ => rfl)] at hP1; exact hP1) hS1 hl)
theorem gf5_117 (h : Ok l x X cc RX5 d) {s i : Nat} (hs : s < 6) (hi : i < 6) (hd : decode cc pc = .ok (.getfield 117, 3)) (k : G x X σ L (.int (σ.1 (iO s i) 1) :: st) (pc + 3)) : G x X σ L (ra X (iO s i) :: st) pc := fun H locs ls hP hS hl => va_get (D := X.1) (ci := 1) (C := RX1) (T := TX1) (N := 12) h.hx h.hb h.hts lw_x1 h.ho h.hK hP (iO s i) (by rw [wl_get (iO_lt hs hi), enc_O X hs hi]) rfl 1 (by decide) (h.hts (.fieldLink RX5 117 "BranchBets$Oracle" "number" "I") (lw_in 39 (by decide +kernel) rfl)) (fun _ h9 => h9) rfl hd (k H locs ls hP hS hl)
theorem gp5_117 (h : Ok l x X cc RX5 d) {s i : Nat} (hs : s < 6) (hi : i < 6) {v : Int32} (hd : decode cc pc = .ok (.putfield 117, 3)) (k : G x X (pu σ (iO s i) 1 v) L st (pc + 3)) : G x X σ L (.int v :: ra X (iO s i) :: st) pc := fun H locs ls hP hS hl => va_put (D := X.1) (ci := 1) (v := .int v) (ty := .int) (C := RX1) (T := TX1) (N := 12) h.hx h.hb h.hts lw_x1 tyX1 tyX1_ok nmX1 h.ho h.hK hP (wl_D h.hA σ) hS (iO s i) (by rw [wl_get (iO_lt hs hi), enc_O X hs hi]) rfl 1 (by decide) (h.hts (.fieldLink RX5 117 "BranchBets$Oracle" "number" "I") (lw_in 39 (by decide +kernel) rfl)) (fun _ h9 => h9) rfl (by decide +kernel) rfl rfl (Nat.le_of_ble_eq_true rfl) hd (fun H1 locs1 hP1 hD1 hS1 => k H1 locs1 ls (by rw [wl_set (σ' := pu σ (iO s i) 1 v) (by rw [enc_O X hs hi]; simp [pu]) (fun k' hne => pu_ne k' hne) (fun _ _ => rfl)] at hP1; exact hP1) hS1 hl)
theorem gf1_22 (h : Ok l x X cc RX1 d) {s i : Nat} (hs : s < 6) (hi : i < 6) (hd : decode cc pc = .ok (.getfield 22, 3)) (k : G x X σ L (.int (σ.1 (iO s i) 2) :: st) (pc + 3)) : G x X σ L (ra X (iO s i) :: st) pc := fun H locs ls hP hS hl => va_get (D := X.1) (ci := 1) (C := RX1) (T := TX1) (N := 12) h.hx h.hb h.hts lw_x1 h.ho h.hK hP (iO s i) (by rw [wl_get (iO_lt hs hi), enc_O X hs hi]) rfl 2 (by decide) (h.hts (.fieldLink RX1 22 "BranchBets$Oracle" "purse" "I") (lw_in 40 (by decide +kernel) rfl)) (fun _ h9 => h9) rfl hd (k H locs ls hP hS hl)
theorem gp1_22 (h : Ok l x X cc RX1 d) {s i : Nat} (hs : s < 6) (hi : i < 6) {v : Int32} (hd : decode cc pc = .ok (.putfield 22, 3)) (k : G x X (pu σ (iO s i) 2 v) L st (pc + 3)) : G x X σ L (.int v :: ra X (iO s i) :: st) pc := fun H locs ls hP hS hl => va_put (D := X.1) (ci := 1) (v := .int v) (ty := .int) (C := RX1) (T := TX1) (N := 12) h.hx h.hb h.hts lw_x1 tyX1 tyX1_ok nmX1 h.ho h.hK hP (wl_D h.hA σ) hS (iO s i) (by rw [wl_get (iO_lt hs hi), enc_O X hs hi]) rfl 2 (by decide) (h.hts (.fieldLink RX1 22 "BranchBets$Oracle" "purse" "I") (lw_in 40 (by decide +kernel) rfl)) (fun _ h9 => h9) rfl (by decide +kernel) rfl rfl (Nat.le_of_ble_eq_true rfl) hd (fun H1 locs1 hP1 hD1 hS1 => k H1 locs1 ls (by rw [wl_set (σ' := pu σ (iO s i) 2 v) (by rw [enc_O X hs hi]; simp [pu]) (fun k' hne => pu_ne k' hne) (fun _ _ => rfl)] at hP1; exact hP1) hS1 hl)
theorem gf5_96 (h : Ok l x X cc RX5 d) {s i : Nat} (hs : s < 6) (hi : i < 6) (hd : decode cc pc = .ok (.getfield 96, 3)) (k : G x X σ L (.int (σ.1 (iO s i) 2) :: st) (pc + 3)) : G x X σ L (ra X (iO s i) :: st) pc := fun H locs ls hP hS hl => va_get (D := X.1) (ci := 1) (C := RX1) (T := TX1) (N := 12) h.hx h.hb h.hts lw_x1 h.ho h.hK hP (iO s i) (by rw [wl_get (iO_lt hs hi), enc_O X hs hi]) rfl 2 (by decide) (h.hts (.fieldLink RX5 96 "BranchBets$Oracle" "purse" "I") (lw_in 41 (by decide +kernel) rfl)) (fun _ h9 => h9) rfl hd (k H locs ls hP hS hl)
theorem gp5_96 (h : Ok l x X cc RX5 d) {s i : Nat} (hs : s < 6) (hi : i < 6) {v : Int32} (hd : decode cc pc = .ok (.putfield 96, 3)) (k : G x X (pu σ (iO s i) 2 v) L st (pc + 3)) : G x X σ L (.int v :: ra X (iO s i) :: st) pc := fun H locs ls hP hS hl => va_put (D := X.1) (ci := 1) (v := .int v) (ty := .int) (C := RX1) (T := TX1) (N := 12) h.hx h.hb h.hts lw_x1 tyX1 tyX1_ok nmX1 h.ho h.hK hP (wl_D h.hA σ) hS (iO s i) (by rw [wl_get (iO_lt hs hi), enc_O X hs hi]) rfl 2 (by decide) (h.hts (.fieldLink RX5 96 "BranchBets$Oracle" "purse" "I") (lw_in 41 (by decide +kernel) rfl)) (fun _ h9 => h9) rfl (by decide +kernel) rfl rfl (Nat.le_of_ble_eq_true rfl) hd (fun H1 locs1 hP1 hD1 hS1 => k H1 locs1 ls (by rw [wl_set (σ' := pu σ (iO s i) 2 v) (by rw [enc_O X hs hi]; simp [pu]) (fun k' hne => pu_ne k' hne) (fun _ _ => rfl)] at hP1; exact hP1) hS1 hl)
theorem gf3_85 (h : Ok l x X cc RX3 d) {s i : Nat} (hs : s < 6) (hi : i < 6) (hd : decode cc pc = .ok (.getfield 85, 3)) (k : G x X σ L (.int (σ.1 (iO s i) 2) :: st) (pc + 3)) : G x X σ L (ra X (iO s i) :: st) pc := fun H locs ls hP hS hl => va_get (D := X.1) (ci := 1) (C := RX1) (T := TX1) (N := 12) h.hx h.hb h.hts lw_x1 h.ho h.hK hP (iO s i) (by rw [wl_get (iO_lt hs hi), enc_O X hs hi]) rfl 2 (by decide) (h.hts (.fieldLink RX3 85 "BranchBets$Oracle" "purse" "I") (lw_in 42 (by decide +kernel) rfl)) (fun _ h9 => h9) rfl hd (k H locs ls hP hS hl)
theorem gp3_85 (h : Ok l x X cc RX3 d) {s i : Nat} (hs : s < 6) (hi : i < 6) {v : Int32} (hd : decode cc pc = .ok (.putfield 85, 3)) (k : G x X (pu σ (iO s i) 2 v) L st (pc + 3)) : G x X σ L (.int v :: ra X (iO s i) :: st) pc := fun H locs ls hP hS hl => va_put (D := X.1) (ci := 1) (v := .int v) (ty := .int) (C := RX1) (T := TX1) (N := 12) h.hx h.hb h.hts lw_x1 tyX1 tyX1_ok nmX1 h.ho h.hK hP (wl_D h.hA σ) hS (iO s i) (by rw [wl_get (iO_lt hs hi), enc_O X hs hi]) rfl 2 (by decide) (h.hts (.fieldLink RX3 85 "BranchBets$Oracle" "purse" "I") (lw_in 42 (by decide +kernel) rfl)) (fun _ h9 => h9) rfl (by decide +kernel) rfl rfl (Nat.le_of_ble_eq_true rfl) hd (fun H1 locs1 hP1 hD1 hS1 => k H1 locs1 ls (by rw [wl_set (σ' := pu σ (iO s i) 2 v) (by rw [enc_O X hs hi]; simp [pu]) (fun k' hne => pu_ne k' hne) (fun _ _ => rfl)] at hP1; exact hP1) hS1 hl)
theorem gf1_25 (h : Ok l x X cc RX1 d) {s i : Nat} (hs : s < 6) (hi : i < 6) (hd : decode cc pc = .ok (.getfield 25, 3)) (k : G x X σ L (.int (σ.1 (iO s i) 3) :: st) (pc + 3)) : G x X σ L (ra X (iO s i) :: st) pc := fun H locs ls hP hS hl => va_get (D := X.1) (ci := 1) (C := RX1) (T := TX1) (N := 12) h.hx h.hb h.hts lw_x1 h.ho h.hK hP (iO s i) (by rw [wl_get (iO_lt hs hi), enc_O X hs hi]) rfl 3 (by decide) (h.hts (.fieldLink RX1 25 "BranchBets$Oracle" "booth" "I") (lw_in 43 (by decide +kernel) rfl)) (fun _ h9 => h9) rfl hd (k H locs ls hP hS hl)
theorem gp1_25 (h : Ok l x X cc RX1 d) {s i : Nat} (hs : s < 6) (hi : i < 6) {v : Int32} (hd : decode cc pc = .ok (.putfield 25, 3)) (k : G x X (pu σ (iO s i) 3 v) L st (pc + 3)) : G x X σ L (.int v :: ra X (iO s i) :: st) pc := fun H locs ls hP hS hl => va_put (D := X.1) (ci := 1) (v := .int v) (ty := .int) (C := RX1) (T := TX1) (N := 12) h.hx h.hb h.hts lw_x1 tyX1 tyX1_ok nmX1 h.ho h.hK hP (wl_D h.hA σ) hS (iO s i) (by rw [wl_get (iO_lt hs hi), enc_O X hs hi]) rfl 3 (by decide) (h.hts (.fieldLink RX1 25 "BranchBets$Oracle" "booth" "I") (lw_in 43 (by decide +kernel) rfl)) (fun _ h9 => h9) rfl (by decide +kernel) rfl rfl (Nat.le_of_ble_eq_true rfl) hd (fun H1 locs1 hP1 hD1 hS1 => k H1 locs1 ls (by rw [wl_set (σ' := pu σ (iO s i) 3 v) (by rw [enc_O X hs hi]; simp [pu]) (fun k' hne => pu_ne k' hne) (fun _ _ => rfl)] at hP1; exact hP1) hS1 hl)
theorem gf3_68 (h : Ok l x X cc RX3 d) {s i : Nat} (hs : s < 6) (hi : i < 6) (hd : decode cc pc = .ok (.getfield 68, 3)) (k : G x X σ L (.int (σ.1 (iO s i) 3) :: st) (pc + 3)) : G x X σ L (ra X (iO s i) :: st) pc := fun H locs ls hP hS hl => va_get (D := X.1) (ci := 1) (C := RX1) (T := TX1) (N := 12) h.hx h.hb h.hts lw_x1 h.ho h.hK hP (iO s i) (by rw [wl_get (iO_lt hs hi), enc_O X hs hi]) rfl 3 (by decide) (h.hts (.fieldLink RX3 68 "BranchBets$Oracle" "booth" "I") (lw_in 44 (by decide +kernel) rfl)) (fun _ h9 => h9) rfl hd (k H locs ls hP hS hl)
theorem gp3_68 (h : Ok l x X cc RX3 d) {s i : Nat} (hs : s < 6) (hi : i < 6) {v : Int32} (hd : decode cc pc = .ok (.putfield 68, 3)) (k : G x X (pu σ (iO s i) 3 v) L st (pc + 3)) : G x X σ L (.int v :: ra X (iO s i) :: st) pc := fun H locs ls hP hS hl => va_put (D := X.1) (ci := 1) (v := .int v) (ty := .int) (C := RX1) (T := TX1) (N := 12) h.hx h.hb h.hts lw_x1 tyX1 tyX1_ok nmX1 h.ho h.hK hP (wl_D h.hA σ) hS (iO s i) (by rw [wl_get (iO_lt hs hi), enc_O X hs hi]) rfl 3 (by decide) (h.hts (.fieldLink RX3 68 "BranchBets$Oracle" "booth" "I") (lw_in 44 (by decide +kernel) rfl)) (fun _ h9 => h9) rfl (by decide +kernel) rfl rfl (Nat.le_of_ble_eq_true rfl) hd (fun H1 locs1 hP1 hD1 hS1 => k H1 locs1 ls (by rw [wl_set (σ' := pu σ (iO s i) 3 v) (by rw [enc_O X hs hi]; simp [pu]) (fun k' hne => pu_ne k' hne) (fun _ _ => rfl)] at hP1; exact hP1) hS1 hl)
theorem gf5_87 (h : Ok l x X cc RX5 d) {s i : Nat} (hs : s < 6) (hi : i < 6) (hd : decode cc pc = .ok (.getfield 87, 3)) (k : G x X σ L (.int (σ.1 (iO s i) 3) :: st) (pc + 3)) : G x X σ L (ra X (iO s i) :: st) pc := fun H locs ls hP hS hl => va_get (D := X.1) (ci := 1) (C := RX1) (T := TX1) (N := 12) h.hx h.hb h.hts lw_x1 h.ho h.hK hP (iO s i) (by rw [wl_get (iO_lt hs hi), enc_O X hs hi]) rfl 3 (by decide) (h.hts (.fieldLink RX5 87 "BranchBets$Oracle" "booth" "I") (lw_in 45 (by decide +kernel) rfl)) (fun _ h9 => h9) rfl hd (k H locs ls hP hS hl)
theorem gp5_87 (h : Ok l x X cc RX5 d) {s i : Nat} (hs : s < 6) (hi : i < 6) {v : Int32} (hd : decode cc pc = .ok (.putfield 87, 3)) (k : G x X (pu σ (iO s i) 3 v) L st (pc + 3)) : G x X σ L (.int v :: ra X (iO s i) :: st) pc := fun H locs ls hP hS hl => va_put (D := X.1) (ci := 1) (v := .int v) (ty := .int) (C := RX1) (T := TX1) (N := 12) h.hx h.hb h.hts lw_x1 tyX1 tyX1_ok nmX1 h.ho h.hK hP (wl_D h.hA σ) hS (iO s i) (by rw [wl_get (iO_lt hs hi), enc_O X hs hi]) rfl 3 (by decide) (h.hts (.fieldLink RX5 87 "BranchBets$Oracle" "booth" "I") (lw_in 45 (by decide +kernel) rfl)) (fun _ h9 => h9) rfl (by decide +kernel) rfl rfl (Nat.le_of_ble_eq_true rfl) hd (fun H1 locs1 hP1 hD1 hS1 => k H1 locs1 ls (by rw [wl_set (σ' := pu σ (iO s i) 3 v) (by rw [enc_O X hs hi]; simp [pu]) (fun k' hne => pu_ne k' hne) (fun _ _ => rfl)] at hP1; exact hP1) hS1 hl)
theorem gf1_28 (h : Ok l x X cc RX1 d) {s i : Nat} (hs : s < 6) (hi : i < 6) (hd : decode cc pc = .ok (.getfield 28, 3)) (k : G x X σ L (.int (σ.1 (iO s i) 4) :: st) (pc + 3)) : G x X σ L (ra X (iO s i) :: st) pc := fun H locs ls hP hS hl => va_get (D := X.1) (ci := 1) (C := RX1) (T := TX1) (N := 12) h.hx h.hb h.hts lw_x1 h.ho h.hK hP (iO s i) (by rw [wl_get (iO_lt hs hi), enc_O X hs hi]) rfl 4 (by decide) (h.hts (.fieldLink RX1 28 "BranchBets$Oracle" "place" "I") (lw_in 46 (by decide +kernel) rfl)) (fun _ h9 => h9) rfl hd (k H locs ls hP hS hl)
theorem gp1_28 (h : Ok l x X cc RX1 d) {s i : Nat} (hs : s < 6) (hi : i < 6) {v : Int32} (hd : decode cc pc = .ok (.putfield 28, 3)) (k : G x X (pu σ (iO s i) 4 v) L st (pc + 3)) : G x X σ L (.int v :: ra X (iO s i) :: st) pc := fun H locs ls hP hS hl => va_put (D := X.1) (ci := 1) (v := .int v) (ty := .int) (C := RX1) (T := TX1) (N := 12) h.hx h.hb h.hts lw_x1 tyX1 tyX1_ok nmX1 h.ho h.hK hP (wl_D h.hA σ) hS (iO s i) (by rw [wl_get (iO_lt hs hi), enc_O X hs hi]) rfl 4 (by decide) (h.hts (.fieldLink RX1 28 "BranchBets$Oracle" "place" "I") (lw_in 46 (by decide +kernel) rfl)) (fun _ h9 => h9) rfl (by decide +kernel) rfl rfl (Nat.le_of_ble_eq_true rfl) hd (fun H1 locs1 hP1 hD1 hS1 => k H1 locs1 ls (by rw [wl_set (σ' := pu σ (iO s i) 4 v) (by rw [enc_O X hs hi]; simp [pu]) (fun k' hne => pu_ne k' hne) (fun _ _ => rfl)] at hP1; exact hP1) hS1 hl)
theorem gf5_90 (h : Ok l x X cc RX5 d) {s i : Nat} (hs : s < 6) (hi : i < 6) (hd : decode cc pc = .ok (.getfield 90, 3)) (k : G x X σ L (.int (σ.1 (iO s i) 4) :: st) (pc + 3)) : G x X σ L (ra X (iO s i) :: st) pc := fun H locs ls hP hS hl => va_get (D := X.1) (ci := 1) (C := RX1) (T := TX1) (N := 12) h.hx h.hb h.hts lw_x1 h.ho h.hK hP (iO s i) (by rw [wl_get (iO_lt hs hi), enc_O X hs hi]) rfl 4 (by decide) (h.hts (.fieldLink RX5 90 "BranchBets$Oracle" "place" "I") (lw_in 47 (by decide +kernel) rfl)) (fun _ h9 => h9) rfl hd (k H locs ls hP hS hl)
theorem gp5_90 (h : Ok l x X cc RX5 d) {s i : Nat} (hs : s < 6) (hi : i < 6) {v : Int32} (hd : decode cc pc = .ok (.putfield 90, 3)) (k : G x X (pu σ (iO s i) 4 v) L st (pc + 3)) : G x X σ L (.int v :: ra X (iO s i) :: st) pc := fun H locs ls hP hS hl => va_put (D := X.1) (ci := 1) (v := .int v) (ty := .int) (C := RX1) (T := TX1) (N := 12) h.hx h.hb h.hts lw_x1 tyX1 tyX1_ok nmX1 h.ho h.hK hP (wl_D h.hA σ) hS (iO s i) (by rw [wl_get (iO_lt hs hi), enc_O X hs hi]) rfl 4 (by decide) (h.hts (.fieldLink RX5 90 "BranchBets$Oracle" "place" "I") (lw_in 47 (by decide +kernel) rfl)) (fun _ h9 => h9) rfl (by decide +kernel) rfl rfl (Nat.le_of_ble_eq_true rfl) hd (fun H1 locs1 hP1 hD1 hS1 => k H1 locs1 ls (by rw [wl_set (σ' := pu σ (iO s i) 4 v) (by rw [enc_O X hs hi]; simp [pu]) (fun k' hne => pu_ne k' hne) (fun _ _ => rfl)] at hP1; exact hP1) hS1 hl)
theorem gf3_75 (h : Ok l x X cc RX3 d) {s i : Nat} (hs : s < 6) (hi : i < 6) (hd : decode cc pc = .ok (.getfield 75, 3)) (k : G x X σ L (.int (σ.1 (iO s i) 4) :: st) (pc + 3)) : G x X σ L (ra X (iO s i) :: st) pc := fun H locs ls hP hS hl => va_get (D := X.1) (ci := 1) (C := RX1) (T := TX1) (N := 12) h.hx h.hb h.hts lw_x1 h.ho h.hK hP (iO s i) (by rw [wl_get (iO_lt hs hi), enc_O X hs hi]) rfl 4 (by decide) (h.hts (.fieldLink RX3 75 "BranchBets$Oracle" "place" "I") (lw_in 48 (by decide +kernel) rfl)) (fun _ h9 => h9) rfl hd (k H locs ls hP hS hl)
theorem gp3_75 (h : Ok l x X cc RX3 d) {s i : Nat} (hs : s < 6) (hi : i < 6) {v : Int32} (hd : decode cc pc = .ok (.putfield 75, 3)) (k : G x X (pu σ (iO s i) 4 v) L st (pc + 3)) : G x X σ L (.int v :: ra X (iO s i) :: st) pc := fun H locs ls hP hS hl => va_put (D := X.1) (ci := 1) (v := .int v) (ty := .int) (C := RX1) (T := TX1) (N := 12) h.hx h.hb h.hts lw_x1 tyX1 tyX1_ok nmX1 h.ho h.hK hP (wl_D h.hA σ) hS (iO s i) (by rw [wl_get (iO_lt hs hi), enc_O X hs hi]) rfl 4 (by decide) (h.hts (.fieldLink RX3 75 "BranchBets$Oracle" "place" "I") (lw_in 48 (by decide +kernel) rfl)) (fun _ h9 => h9) rfl (by decide +kernel) rfl rfl (Nat.le_of_ble_eq_true rfl) hd (fun H1 locs1 hP1 hD1 hS1 => k H1 locs1 ls (by rw [wl_set (σ' := pu σ (iO s i) 4 v) (by rw [enc_O X hs hi]; simp [pu]) (fun k' hne => pu_ne k' hne) (fun _ _ => rfl)] at hP1; exact hP1) hS1 hl)
theorem gf1_31 (h : Ok l x X cc RX1 d) {s i : Nat} (hs : s < 6) (hi : i < 6) (hd : decode cc pc = .ok (.getfield 31, 3)) (k : G x X σ L (.int (σ.1 (iO s i) 5) :: st) (pc + 3)) : G x X σ L (ra X (iO s i) :: st) pc := fun H locs ls hP hS hl => va_get (D := X.1) (ci := 1) (C := RX1) (T := TX1) (N := 12) h.hx h.hb h.hts lw_x1 h.ho h.hK hP (iO s i) (by rw [wl_get (iO_lt hs hi), enc_O X hs hi]) rfl 5 (by decide) (h.hts (.fieldLink RX1 31 "BranchBets$Oracle" "right" "I") (lw_in 49 (by decide +kernel) rfl)) (fun _ h9 => h9) rfl hd (k H locs ls hP hS hl)
theorem gp1_31 (h : Ok l x X cc RX1 d) {s i : Nat} (hs : s < 6) (hi : i < 6) {v : Int32} (hd : decode cc pc = .ok (.putfield 31, 3)) (k : G x X (pu σ (iO s i) 5 v) L st (pc + 3)) : G x X σ L (.int v :: ra X (iO s i) :: st) pc := fun H locs ls hP hS hl => va_put (D := X.1) (ci := 1) (v := .int v) (ty := .int) (C := RX1) (T := TX1) (N := 12) h.hx h.hb h.hts lw_x1 tyX1 tyX1_ok nmX1 h.ho h.hK hP (wl_D h.hA σ) hS (iO s i) (by rw [wl_get (iO_lt hs hi), enc_O X hs hi]) rfl 5 (by decide) (h.hts (.fieldLink RX1 31 "BranchBets$Oracle" "right" "I") (lw_in 49 (by decide +kernel) rfl)) (fun _ h9 => h9) rfl (by decide +kernel) rfl rfl (Nat.le_of_ble_eq_true rfl) hd (fun H1 locs1 hP1 hD1 hS1 => k H1 locs1 ls (by rw [wl_set (σ' := pu σ (iO s i) 5 v) (by rw [enc_O X hs hi]; simp [pu]) (fun k' hne => pu_ne k' hne) (fun _ _ => rfl)] at hP1; exact hP1) hS1 hl)
theorem gf5_121 (h : Ok l x X cc RX5 d) {s i : Nat} (hs : s < 6) (hi : i < 6) (hd : decode cc pc = .ok (.getfield 121, 3)) (k : G x X σ L (.int (σ.1 (iO s i) 5) :: st) (pc + 3)) : G x X σ L (ra X (iO s i) :: st) pc := fun H locs ls hP hS hl => va_get (D := X.1) (ci := 1) (C := RX1) (T := TX1) (N := 12) h.hx h.hb h.hts lw_x1 h.ho h.hK hP (iO s i) (by rw [wl_get (iO_lt hs hi), enc_O X hs hi]) rfl 5 (by decide) (h.hts (.fieldLink RX5 121 "BranchBets$Oracle" "right" "I") (lw_in 50 (by decide +kernel) rfl)) (fun _ h9 => h9) rfl hd (k H locs ls hP hS hl)
theorem gp5_121 (h : Ok l x X cc RX5 d) {s i : Nat} (hs : s < 6) (hi : i < 6) {v : Int32} (hd : decode cc pc = .ok (.putfield 121, 3)) (k : G x X (pu σ (iO s i) 5 v) L st (pc + 3)) : G x X σ L (.int v :: ra X (iO s i) :: st) pc := fun H locs ls hP hS hl => va_put (D := X.1) (ci := 1) (v := .int v) (ty := .int) (C := RX1) (T := TX1) (N := 12) h.hx h.hb h.hts lw_x1 tyX1 tyX1_ok nmX1 h.ho h.hK hP (wl_D h.hA σ) hS (iO s i) (by rw [wl_get (iO_lt hs hi), enc_O X hs hi]) rfl 5 (by decide) (h.hts (.fieldLink RX5 121 "BranchBets$Oracle" "right" "I") (lw_in 50 (by decide +kernel) rfl)) (fun _ h9 => h9) rfl (by decide +kernel) rfl rfl (Nat.le_of_ble_eq_true rfl) hd (fun H1 locs1 hP1 hD1 hS1 => k H1 locs1 ls (by rw [wl_set (σ' := pu σ (iO s i) 5 v) (by rw [enc_O X hs hi]; simp [pu]) (fun k' hne => pu_ne k' hne) (fun _ _ => rfl)] at hP1; exact hP1) hS1 hl)
theorem gf1_34 (h : Ok l x X cc RX1 d) {s i : Nat} (hs : s < 6) (hi : i < 6) (hd : decode cc pc = .ok (.getfield 34, 3)) (k : G x X σ L (.int (σ.1 (iO s i) 6) :: st) (pc + 3)) : G x X σ L (ra X (iO s i) :: st) pc := fun H locs ls hP hS hl => va_get (D := X.1) (ci := 1) (C := RX1) (T := TX1) (N := 12) h.hx h.hb h.hts lw_x1 h.ho h.hK hP (iO s i) (by rw [wl_get (iO_lt hs hi), enc_O X hs hi]) rfl 6 (by decide) (h.hts (.fieldLink RX1 34 "BranchBets$Oracle" "wrong" "I") (lw_in 51 (by decide +kernel) rfl)) (fun _ h9 => h9) rfl hd (k H locs ls hP hS hl)
theorem gp1_34 (h : Ok l x X cc RX1 d) {s i : Nat} (hs : s < 6) (hi : i < 6) {v : Int32} (hd : decode cc pc = .ok (.putfield 34, 3)) (k : G x X (pu σ (iO s i) 6 v) L st (pc + 3)) : G x X σ L (.int v :: ra X (iO s i) :: st) pc := fun H locs ls hP hS hl => va_put (D := X.1) (ci := 1) (v := .int v) (ty := .int) (C := RX1) (T := TX1) (N := 12) h.hx h.hb h.hts lw_x1 tyX1 tyX1_ok nmX1 h.ho h.hK hP (wl_D h.hA σ) hS (iO s i) (by rw [wl_get (iO_lt hs hi), enc_O X hs hi]) rfl 6 (by decide) (h.hts (.fieldLink RX1 34 "BranchBets$Oracle" "wrong" "I") (lw_in 51 (by decide +kernel) rfl)) (fun _ h9 => h9) rfl (by decide +kernel) rfl rfl (Nat.le_of_ble_eq_true rfl) hd (fun H1 locs1 hP1 hD1 hS1 => k H1 locs1 ls (by rw [wl_set (σ' := pu σ (iO s i) 6 v) (by rw [enc_O X hs hi]; simp [pu]) (fun k' hne => pu_ne k' hne) (fun _ _ => rfl)] at hP1; exact hP1) hS1 hl)
theorem gf5_124 (h : Ok l x X cc RX5 d) {s i : Nat} (hs : s < 6) (hi : i < 6) (hd : decode cc pc = .ok (.getfield 124, 3)) (k : G x X σ L (.int (σ.1 (iO s i) 6) :: st) (pc + 3)) : G x X σ L (ra X (iO s i) :: st) pc := fun H locs ls hP hS hl => va_get (D := X.1) (ci := 1) (C := RX1) (T := TX1) (N := 12) h.hx h.hb h.hts lw_x1 h.ho h.hK hP (iO s i) (by rw [wl_get (iO_lt hs hi), enc_O X hs hi]) rfl 6 (by decide) (h.hts (.fieldLink RX5 124 "BranchBets$Oracle" "wrong" "I") (lw_in 52 (by decide +kernel) rfl)) (fun _ h9 => h9) rfl hd (k H locs ls hP hS hl)
theorem gp5_124 (h : Ok l x X cc RX5 d) {s i : Nat} (hs : s < 6) (hi : i < 6) {v : Int32} (hd : decode cc pc = .ok (.putfield 124, 3)) (k : G x X (pu σ (iO s i) 6 v) L st (pc + 3)) : G x X σ L (.int v :: ra X (iO s i) :: st) pc := fun H locs ls hP hS hl => va_put (D := X.1) (ci := 1) (v := .int v) (ty := .int) (C := RX1) (T := TX1) (N := 12) h.hx h.hb h.hts lw_x1 tyX1 tyX1_ok nmX1 h.ho h.hK hP (wl_D h.hA σ) hS (iO s i) (by rw [wl_get (iO_lt hs hi), enc_O X hs hi]) rfl 6 (by decide) (h.hts (.fieldLink RX5 124 "BranchBets$Oracle" "wrong" "I") (lw_in 52 (by decide +kernel) rfl)) (fun _ h9 => h9) rfl (by decide +kernel) rfl rfl (Nat.le_of_ble_eq_true rfl) hd (fun H1 locs1 hP1 hD1 hS1 => k H1 locs1 ls (by rw [wl_set (σ' := pu σ (iO s i) 6 v) (by rw [enc_O X hs hi]; simp [pu]) (fun k' hne => pu_ne k' hne) (fun _ _ => rfl)] at hP1; exact hP1) hS1 hl)
theorem gf1_37 (h : Ok l x X cc RX1 d) {s i : Nat} (hs : s < 6) (hi : i < 6) (hd : decode cc pc = .ok (.getfield 37, 3)) (k : G x X σ L (.int (σ.1 (iO s i) 7) :: st) (pc + 3)) : G x X σ L (ra X (iO s i) :: st) pc := fun H locs ls hP hS hl => va_get (D := X.1) (ci := 1) (C := RX1) (T := TX1) (N := 12) h.hx h.hb h.hts lw_x1 h.ho h.hK hP (iO s i) (by rw [wl_get (iO_lt hs hi), enc_O X hs hi]) rfl 7 (by decide) (h.hts (.fieldLink RX1 37 "BranchBets$Oracle" "record" "I") (lw_in 53 (by decide +kernel) rfl)) (fun _ h9 => h9) rfl hd (k H locs ls hP hS hl)
theorem gp1_37 (h : Ok l x X cc RX1 d) {s i : Nat} (hs : s < 6) (hi : i < 6) {v : Int32} (hd : decode cc pc = .ok (.putfield 37, 3)) (k : G x X (pu σ (iO s i) 7 v) L st (pc + 3)) : G x X σ L (.int v :: ra X (iO s i) :: st) pc := fun H locs ls hP hS hl => va_put (D := X.1) (ci := 1) (v := .int v) (ty := .int) (C := RX1) (T := TX1) (N := 12) h.hx h.hb h.hts lw_x1 tyX1 tyX1_ok nmX1 h.ho h.hK hP (wl_D h.hA σ) hS (iO s i) (by rw [wl_get (iO_lt hs hi), enc_O X hs hi]) rfl 7 (by decide) (h.hts (.fieldLink RX1 37 "BranchBets$Oracle" "record" "I") (lw_in 53 (by decide +kernel) rfl)) (fun _ h9 => h9) rfl (by decide +kernel) rfl rfl (Nat.le_of_ble_eq_true rfl) hd (fun H1 locs1 hP1 hD1 hS1 => k H1 locs1 ls (by rw [wl_set (σ' := pu σ (iO s i) 7 v) (by rw [enc_O X hs hi]; simp [pu]) (fun k' hne => pu_ne k' hne) (fun _ _ => rfl)] at hP1; exact hP1) hS1 hl)
theorem gf5_127 (h : Ok l x X cc RX5 d) {s i : Nat} (hs : s < 6) (hi : i < 6) (hd : decode cc pc = .ok (.getfield 127, 3)) (k : G x X σ L (.int (σ.1 (iO s i) 7) :: st) (pc + 3)) : G x X σ L (ra X (iO s i) :: st) pc := fun H locs ls hP hS hl => va_get (D := X.1) (ci := 1) (C := RX1) (T := TX1) (N := 12) h.hx h.hb h.hts lw_x1 h.ho h.hK hP (iO s i) (by rw [wl_get (iO_lt hs hi), enc_O X hs hi]) rfl 7 (by decide) (h.hts (.fieldLink RX5 127 "BranchBets$Oracle" "record" "I") (lw_in 54 (by decide +kernel) rfl)) (fun _ h9 => h9) rfl hd (k H locs ls hP hS hl)
theorem gp5_127 (h : Ok l x X cc RX5 d) {s i : Nat} (hs : s < 6) (hi : i < 6) {v : Int32} (hd : decode cc pc = .ok (.putfield 127, 3)) (k : G x X (pu σ (iO s i) 7 v) L st (pc + 3)) : G x X σ L (.int v :: ra X (iO s i) :: st) pc := fun H locs ls hP hS hl => va_put (D := X.1) (ci := 1) (v := .int v) (ty := .int) (C := RX1) (T := TX1) (N := 12) h.hx h.hb h.hts lw_x1 tyX1 tyX1_ok nmX1 h.ho h.hK hP (wl_D h.hA σ) hS (iO s i) (by rw [wl_get (iO_lt hs hi), enc_O X hs hi]) rfl 7 (by decide) (h.hts (.fieldLink RX5 127 "BranchBets$Oracle" "record" "I") (lw_in 54 (by decide +kernel) rfl)) (fun _ h9 => h9) rfl (by decide +kernel) rfl rfl (Nat.le_of_ble_eq_true rfl) hd (fun H1 locs1 hP1 hD1 hS1 => k H1 locs1 ls (by rw [wl_set (σ' := pu σ (iO s i) 7 v) (by rw [enc_O X hs hi]; simp [pu]) (fun k' hne => pu_ne k' hne) (fun _ _ => rfl)] at hP1; exact hP1) hS1 hl)
theorem gf1_40 (h : Ok l x X cc RX1 d) {s i : Nat} (hs : s < 6) (hi : i < 6) (hd : decode cc pc = .ok (.getfield 40, 3)) (k : G x X σ L (.int (σ.1 (iO s i) 8) :: st) (pc + 3)) : G x X σ L (ra X (iO s i) :: st) pc := fun H locs ls hP hS hl => va_get (D := X.1) (ci := 1) (C := RX1) (T := TX1) (N := 12) h.hx h.hb h.hts lw_x1 h.ho h.hK hP (iO s i) (by rw [wl_get (iO_lt hs hi), enc_O X hs hi]) rfl 8 (by decide) (h.hts (.fieldLink RX1 40 "BranchBets$Oracle" "ruins" "I") (lw_in 55 (by decide +kernel) rfl)) (fun _ h9 => h9) rfl hd (k H locs ls hP hS hl)
theorem gp1_40 (h : Ok l x X cc RX1 d) {s i : Nat} (hs : s < 6) (hi : i < 6) {v : Int32} (hd : decode cc pc = .ok (.putfield 40, 3)) (k : G x X (pu σ (iO s i) 8 v) L st (pc + 3)) : G x X σ L (.int v :: ra X (iO s i) :: st) pc := fun H locs ls hP hS hl => va_put (D := X.1) (ci := 1) (v := .int v) (ty := .int) (C := RX1) (T := TX1) (N := 12) h.hx h.hb h.hts lw_x1 tyX1 tyX1_ok nmX1 h.ho h.hK hP (wl_D h.hA σ) hS (iO s i) (by rw [wl_get (iO_lt hs hi), enc_O X hs hi]) rfl 8 (by decide) (h.hts (.fieldLink RX1 40 "BranchBets$Oracle" "ruins" "I") (lw_in 55 (by decide +kernel) rfl)) (fun _ h9 => h9) rfl (by decide +kernel) rfl rfl (Nat.le_of_ble_eq_true rfl) hd (fun H1 locs1 hP1 hD1 hS1 => k H1 locs1 ls (by rw [wl_set (σ' := pu σ (iO s i) 8 v) (by rw [enc_O X hs hi]; simp [pu]) (fun k' hne => pu_ne k' hne) (fun _ _ => rfl)] at hP1; exact hP1) hS1 hl)
theorem gf5_130 (h : Ok l x X cc RX5 d) {s i : Nat} (hs : s < 6) (hi : i < 6) (hd : decode cc pc = .ok (.getfield 130, 3)) (k : G x X σ L (.int (σ.1 (iO s i) 8) :: st) (pc + 3)) : G x X σ L (ra X (iO s i) :: st) pc := fun H locs ls hP hS hl => va_get (D := X.1) (ci := 1) (C := RX1) (T := TX1) (N := 12) h.hx h.hb h.hts lw_x1 h.ho h.hK hP (iO s i) (by rw [wl_get (iO_lt hs hi), enc_O X hs hi]) rfl 8 (by decide) (h.hts (.fieldLink RX5 130 "BranchBets$Oracle" "ruins" "I") (lw_in 56 (by decide +kernel) rfl)) (fun _ h9 => h9) rfl hd (k H locs ls hP hS hl)
theorem gp5_130 (h : Ok l x X cc RX5 d) {s i : Nat} (hs : s < 6) (hi : i < 6) {v : Int32} (hd : decode cc pc = .ok (.putfield 130, 3)) (k : G x X (pu σ (iO s i) 8 v) L st (pc + 3)) : G x X σ L (.int v :: ra X (iO s i) :: st) pc := fun H locs ls hP hS hl => va_put (D := X.1) (ci := 1) (v := .int v) (ty := .int) (C := RX1) (T := TX1) (N := 12) h.hx h.hb h.hts lw_x1 tyX1 tyX1_ok nmX1 h.ho h.hK hP (wl_D h.hA σ) hS (iO s i) (by rw [wl_get (iO_lt hs hi), enc_O X hs hi]) rfl 8 (by decide) (h.hts (.fieldLink RX5 130 "BranchBets$Oracle" "ruins" "I") (lw_in 56 (by decide +kernel) rfl)) (fun _ h9 => h9) rfl (by decide +kernel) rfl rfl (Nat.le_of_ble_eq_true rfl) hd (fun H1 locs1 hP1 hD1 hS1 => k H1 locs1 ls (by rw [wl_set (σ' := pu σ (iO s i) 8 v) (by rw [enc_O X hs hi]; simp [pu]) (fun k' hne => pu_ne k' hne) (fun _ _ => rfl)] at hP1; exact hP1) hS1 hl)
theorem gf3_111 (h : Ok l x X cc RX3 d) {s i : Nat} (hs : s < 6) (hi : i < 6) (hd : decode cc pc = .ok (.getfield 111, 3)) (k : G x X σ L (.int (σ.1 (iO s i) 9) :: st) (pc + 3)) : G x X σ L (ra X (iO s i) :: st) pc := fun H locs ls hP hS hl => va_get (D := X.1) (ci := 1) (C := RX1) (T := TX1) (N := 12) h.hx h.hb h.hts lw_x1 h.ho h.hK hP (iO s i) (by rw [wl_get (iO_lt hs hi), enc_O X hs hi]) rfl 9 (by decide) (h.hts (.fieldLink RX3 111 "BranchBets$Oracle" "said" "I") (lw_in 57 (by decide +kernel) rfl)) (fun _ h9 => h9) rfl hd (k H locs ls hP hS hl)
theorem gp3_111 (h : Ok l x X cc RX3 d) {s i : Nat} (hs : s < 6) (hi : i < 6) {v : Int32} (hd : decode cc pc = .ok (.putfield 111, 3)) (k : G x X (pu σ (iO s i) 9 v) L st (pc + 3)) : G x X σ L (.int v :: ra X (iO s i) :: st) pc := fun H locs ls hP hS hl => va_put (D := X.1) (ci := 1) (v := .int v) (ty := .int) (C := RX1) (T := TX1) (N := 12) h.hx h.hb h.hts lw_x1 tyX1 tyX1_ok nmX1 h.ho h.hK hP (wl_D h.hA σ) hS (iO s i) (by rw [wl_get (iO_lt hs hi), enc_O X hs hi]) rfl 9 (by decide) (h.hts (.fieldLink RX3 111 "BranchBets$Oracle" "said" "I") (lw_in 57 (by decide +kernel) rfl)) (fun _ h9 => h9) rfl (by decide +kernel) rfl rfl (Nat.le_of_ble_eq_true rfl) hd (fun H1 locs1 hP1 hD1 hS1 => k H1 locs1 ls (by rw [wl_set (σ' := pu σ (iO s i) 9 v) (by rw [enc_O X hs hi]; simp [pu]) (fun k' hne => pu_ne k' hne) (fun _ _ => rfl)] at hP1; exact hP1) hS1 hl)
theorem gf5_183 (h : Ok l x X cc RX5 d) {s i : Nat} (hs : s < 6) (hi : i < 6) (hd : decode cc pc = .ok (.getfield 183, 3)) (k : G x X σ L (.int (σ.1 (iO s i) 9) :: st) (pc + 3)) : G x X σ L (ra X (iO s i) :: st) pc := fun H locs ls hP hS hl => va_get (D := X.1) (ci := 1) (C := RX1) (T := TX1) (N := 12) h.hx h.hb h.hts lw_x1 h.ho h.hK hP (iO s i) (by rw [wl_get (iO_lt hs hi), enc_O X hs hi]) rfl 9 (by decide) (h.hts (.fieldLink RX5 183 "BranchBets$Oracle" "said" "I") (lw_in 58 (by decide +kernel) rfl)) (fun _ h9 => h9) rfl hd (k H locs ls hP hS hl)
theorem gp5_183 (h : Ok l x X cc RX5 d) {s i : Nat} (hs : s < 6) (hi : i < 6) {v : Int32} (hd : decode cc pc = .ok (.putfield 183, 3)) (k : G x X (pu σ (iO s i) 9 v) L st (pc + 3)) : G x X σ L (.int v :: ra X (iO s i) :: st) pc := fun H locs ls hP hS hl => va_put (D := X.1) (ci := 1) (v := .int v) (ty := .int) (C := RX1) (T := TX1) (N := 12) h.hx h.hb h.hts lw_x1 tyX1 tyX1_ok nmX1 h.ho h.hK hP (wl_D h.hA σ) hS (iO s i) (by rw [wl_get (iO_lt hs hi), enc_O X hs hi]) rfl 9 (by decide) (h.hts (.fieldLink RX5 183 "BranchBets$Oracle" "said" "I") (lw_in 58 (by decide +kernel) rfl)) (fun _ h9 => h9) rfl (by decide +kernel) rfl rfl (Nat.le_of_ble_eq_true rfl) hd (fun H1 locs1 hP1 hD1 hS1 => k H1 locs1 ls (by rw [wl_set (σ' := pu σ (iO s i) 9 v) (by rw [enc_O X hs hi]; simp [pu]) (fun k' hne => pu_ne k' hne) (fun _ _ => rfl)] at hP1; exact hP1) hS1 hl)
theorem gf3_101 (h : Ok l x X cc RX3 d) {s i : Nat} (hs : s < 6) (hi : i < 6) (hd : decode cc pc = .ok (.getfield 101, 3)) (k : G x X σ L (.int (σ.1 (iO s i) 10) :: st) (pc + 3)) : G x X σ L (ra X (iO s i) :: st) pc := fun H locs ls hP hS hl => va_get (D := X.1) (ci := 1) (C := RX1) (T := TX1) (N := 12) h.hx h.hb h.hts lw_x1 h.ho h.hK hP (iO s i) (by rw [wl_get (iO_lt hs hi), enc_O X hs hi]) rfl 10 (by decide) (h.hts (.fieldLink RX3 101 "BranchBets$Oracle" "staked" "I") (lw_in 59 (by decide +kernel) rfl)) (fun _ h9 => h9) rfl hd (k H locs ls hP hS hl)
theorem gp3_101 (h : Ok l x X cc RX3 d) {s i : Nat} (hs : s < 6) (hi : i < 6) {v : Int32} (hd : decode cc pc = .ok (.putfield 101, 3)) (k : G x X (pu σ (iO s i) 10 v) L st (pc + 3)) : G x X σ L (.int v :: ra X (iO s i) :: st) pc := fun H locs ls hP hS hl => va_put (D := X.1) (ci := 1) (v := .int v) (ty := .int) (C := RX1) (T := TX1) (N := 12) h.hx h.hb h.hts lw_x1 tyX1 tyX1_ok nmX1 h.ho h.hK hP (wl_D h.hA σ) hS (iO s i) (by rw [wl_get (iO_lt hs hi), enc_O X hs hi]) rfl 10 (by decide) (h.hts (.fieldLink RX3 101 "BranchBets$Oracle" "staked" "I") (lw_in 59 (by decide +kernel) rfl)) (fun _ h9 => h9) rfl (by decide +kernel) rfl rfl (Nat.le_of_ble_eq_true rfl) hd (fun H1 locs1 hP1 hD1 hS1 => k H1 locs1 ls (by rw [wl_set (σ' := pu σ (iO s i) 10 v) (by rw [enc_O X hs hi]; simp [pu]) (fun k' hne => pu_ne k' hne) (fun _ _ => rfl)] at hP1; exact hP1) hS1 hl)
theorem gf5_186 (h : Ok l x X cc RX5 d) {s i : Nat} (hs : s < 6) (hi : i < 6) (hd : decode cc pc = .ok (.getfield 186, 3)) (k : G x X σ L (.int (σ.1 (iO s i) 10) :: st) (pc + 3)) : G x X σ L (ra X (iO s i) :: st) pc := fun H locs ls hP hS hl => va_get (D := X.1) (ci := 1) (C := RX1) (T := TX1) (N := 12) h.hx h.hb h.hts lw_x1 h.ho h.hK hP (iO s i) (by rw [wl_get (iO_lt hs hi), enc_O X hs hi]) rfl 10 (by decide) (h.hts (.fieldLink RX5 186 "BranchBets$Oracle" "staked" "I") (lw_in 60 (by decide +kernel) rfl)) (fun _ h9 => h9) rfl hd (k H locs ls hP hS hl)
theorem gp5_186 (h : Ok l x X cc RX5 d) {s i : Nat} (hs : s < 6) (hi : i < 6) {v : Int32} (hd : decode cc pc = .ok (.putfield 186, 3)) (k : G x X (pu σ (iO s i) 10 v) L st (pc + 3)) : G x X σ L (.int v :: ra X (iO s i) :: st) pc := fun H locs ls hP hS hl => va_put (D := X.1) (ci := 1) (v := .int v) (ty := .int) (C := RX1) (T := TX1) (N := 12) h.hx h.hb h.hts lw_x1 tyX1 tyX1_ok nmX1 h.ho h.hK hP (wl_D h.hA σ) hS (iO s i) (by rw [wl_get (iO_lt hs hi), enc_O X hs hi]) rfl 10 (by decide) (h.hts (.fieldLink RX5 186 "BranchBets$Oracle" "staked" "I") (lw_in 60 (by decide +kernel) rfl)) (fun _ h9 => h9) rfl (by decide +kernel) rfl rfl (Nat.le_of_ble_eq_true rfl) hd (fun H1 locs1 hP1 hD1 hS1 => k H1 locs1 ls (by rw [wl_set (σ' := pu σ (iO s i) 10 v) (by rw [enc_O X hs hi]; simp [pu]) (fun k' hne => pu_ne k' hne) (fun _ _ => rfl)] at hP1; exact hP1) hS1 hl)
theorem gf1_9 (h : Ok l x X cc RX1 d) {s i : Nat} (hs : s < 6) (hi : i < 6) (hd : decode cc pc = .ok (.getfield 9, 3)) (k : G x X σ L (ra X (iT s i) :: st) (pc + 3)) : G x X σ L (ra X (iO s i) :: st) pc := fun H locs ls hP hS hl => va_get (D := X.1) (ci := 1) (C := RX1) (T := TX1) (N := 12) h.hx h.hb h.hts lw_x1 h.ho h.hK hP (iO s i) (by rw [wl_get (iO_lt hs hi), enc_O X hs hi]) rfl 11 (by decide) (h.hts (.fieldLink RX1 9 "BranchBets$Oracle" "table" "[I") (lw_in 61 (by decide +kernel) rfl)) (fun _ h9 => h9) rfl hd (k H locs ls hP hS hl)
theorem gf5_143 (h : Ok l x X cc RX5 d) {s i : Nat} (hs : s < 6) (hi : i < 6) (hd : decode cc pc = .ok (.getfield 143, 3)) (k : G x X σ L (ra X (iT s i) :: st) (pc + 3)) : G x X σ L (ra X (iO s i) :: st) pc := fun H locs ls hP hS hl => va_get (D := X.1) (ci := 1) (C := RX1) (T := TX1) (N := 12) h.hx h.hb h.hts lw_x1 h.ho h.hK hP (iO s i) (by rw [wl_get (iO_lt hs hi), enc_O X hs hi]) rfl 11 (by decide) (h.hts (.fieldLink RX5 143 "BranchBets$Oracle" "table" "[I") (lw_in 62 (by decide +kernel) rfl)) (fun _ h9 => h9) rfl hd (k H locs ls hP hS hl)
theorem gf0_7 (h : Ok l x X cc RX0 d) {s i : Nat} (hs : s < 6) (hi : i < 8) (hd : decode cc pc = .ok (.getfield 7, 3)) (k : G x X σ L (.int (σ.1 (iL s i) 0) :: st) (pc + 3)) : G x X σ L (ra X (iL s i) :: st) pc := fun H locs ls hP hS hl => va_get (D := X.1) (ci := 0) (C := RX0) (T := TX0) (N := 3) h.hx h.hb h.hts lw_x0 h.ho h.hK hP (iL s i) (by rw [wl_get (iL_lt hs hi), enc_L X hs hi]) rfl 0 (by decide) (h.hts (.fieldLink RX0 7 "BranchBets$Loan" "creditor" "I") (lw_in 96 (by decide +kernel) rfl)) (fun _ h9 => h9) rfl hd (k H locs ls hP hS hl)
theorem gp0_7 (h : Ok l x X cc RX0 d) {s i : Nat} (hs : s < 6) (hi : i < 8) {v : Int32} (hd : decode cc pc = .ok (.putfield 7, 3)) (k : G x X (pu σ (iL s i) 0 v) L st (pc + 3)) : G x X σ L (.int v :: ra X (iL s i) :: st) pc := fun H locs ls hP hS hl => va_put (D := X.1) (ci := 0) (v := .int v) (ty := .int) (C := RX0) (T := TX0) (N := 3) h.hx h.hb h.hts lw_x0 tyX0 tyX0_ok nmX0 h.ho h.hK hP (wl_D h.hA σ) hS (iL s i) (by rw [wl_get (iL_lt hs hi), enc_L X hs hi]) rfl 0 (by decide) (h.hts (.fieldLink RX0 7 "BranchBets$Loan" "creditor" "I") (lw_in 96 (by decide +kernel) rfl)) (fun _ h9 => h9) rfl (by decide +kernel) rfl rfl (Nat.le_of_ble_eq_true rfl) hd (fun H1 locs1 hP1 hD1 hS1 => k H1 locs1 ls (by rw [wl_set (σ' := pu σ (iL s i) 0 v) (by rw [enc_L X hs hi]; simp [pu]) (fun k' hne => pu_ne k' hne) (fun _ _ => rfl)] at hP1; exact hP1) hS1 hl)
theorem gf3_88 (h : Ok l x X cc RX3 d) {s i : Nat} (hs : s < 6) (hi : i < 8) (hd : decode cc pc = .ok (.getfield 88, 3)) (k : G x X σ L (.int (σ.1 (iL s i) 0) :: st) (pc + 3)) : G x X σ L (ra X (iL s i) :: st) pc := fun H locs ls hP hS hl => va_get (D := X.1) (ci := 0) (C := RX0) (T := TX0) (N := 3) h.hx h.hb h.hts lw_x0 h.ho h.hK hP (iL s i) (by rw [wl_get (iL_lt hs hi), enc_L X hs hi]) rfl 0 (by decide) (h.hts (.fieldLink RX3 88 "BranchBets$Loan" "creditor" "I") (lw_in 97 (by decide +kernel) rfl)) (fun _ h9 => h9) rfl hd (k H locs ls hP hS hl)
theorem gp3_88 (h : Ok l x X cc RX3 d) {s i : Nat} (hs : s < 6) (hi : i < 8) {v : Int32} (hd : decode cc pc = .ok (.putfield 88, 3)) (k : G x X (pu σ (iL s i) 0 v) L st (pc + 3)) : G x X σ L (.int v :: ra X (iL s i) :: st) pc := fun H locs ls hP hS hl => va_put (D := X.1) (ci := 0) (v := .int v) (ty := .int) (C := RX0) (T := TX0) (N := 3) h.hx h.hb h.hts lw_x0 tyX0 tyX0_ok nmX0 h.ho h.hK hP (wl_D h.hA σ) hS (iL s i) (by rw [wl_get (iL_lt hs hi), enc_L X hs hi]) rfl 0 (by decide) (h.hts (.fieldLink RX3 88 "BranchBets$Loan" "creditor" "I") (lw_in 97 (by decide +kernel) rfl)) (fun _ h9 => h9) rfl (by decide +kernel) rfl rfl (Nat.le_of_ble_eq_true rfl) hd (fun H1 locs1 hP1 hD1 hS1 => k H1 locs1 ls (by rw [wl_set (σ' := pu σ (iL s i) 0 v) (by rw [enc_L X hs hi]; simp [pu]) (fun k' hne => pu_ne k' hne) (fun _ _ => rfl)] at hP1; exact hP1) hS1 hl)
theorem gf5_150 (h : Ok l x X cc RX5 d) {s i : Nat} (hs : s < 6) (hi : i < 8) (hd : decode cc pc = .ok (.getfield 150, 3)) (k : G x X σ L (.int (σ.1 (iL s i) 0) :: st) (pc + 3)) : G x X σ L (ra X (iL s i) :: st) pc := fun H locs ls hP hS hl => va_get (D := X.1) (ci := 0) (C := RX0) (T := TX0) (N := 3) h.hx h.hb h.hts lw_x0 h.ho h.hK hP (iL s i) (by rw [wl_get (iL_lt hs hi), enc_L X hs hi]) rfl 0 (by decide) (h.hts (.fieldLink RX5 150 "BranchBets$Loan" "creditor" "I") (lw_in 98 (by decide +kernel) rfl)) (fun _ h9 => h9) rfl hd (k H locs ls hP hS hl)
theorem gp5_150 (h : Ok l x X cc RX5 d) {s i : Nat} (hs : s < 6) (hi : i < 8) {v : Int32} (hd : decode cc pc = .ok (.putfield 150, 3)) (k : G x X (pu σ (iL s i) 0 v) L st (pc + 3)) : G x X σ L (.int v :: ra X (iL s i) :: st) pc := fun H locs ls hP hS hl => va_put (D := X.1) (ci := 0) (v := .int v) (ty := .int) (C := RX0) (T := TX0) (N := 3) h.hx h.hb h.hts lw_x0 tyX0 tyX0_ok nmX0 h.ho h.hK hP (wl_D h.hA σ) hS (iL s i) (by rw [wl_get (iL_lt hs hi), enc_L X hs hi]) rfl 0 (by decide) (h.hts (.fieldLink RX5 150 "BranchBets$Loan" "creditor" "I") (lw_in 98 (by decide +kernel) rfl)) (fun _ h9 => h9) rfl (by decide +kernel) rfl rfl (Nat.le_of_ble_eq_true rfl) hd (fun H1 locs1 hP1 hD1 hS1 => k H1 locs1 ls (by rw [wl_set (σ' := pu σ (iL s i) 0 v) (by rw [enc_L X hs hi]; simp [pu]) (fun k' hne => pu_ne k' hne) (fun _ _ => rfl)] at hP1; exact hP1) hS1 hl)
theorem gf0_13 (h : Ok l x X cc RX0 d) {s i : Nat} (hs : s < 6) (hi : i < 8) (hd : decode cc pc = .ok (.getfield 13, 3)) (k : G x X σ L (.int (σ.1 (iL s i) 1) :: st) (pc + 3)) : G x X σ L (ra X (iL s i) :: st) pc := fun H locs ls hP hS hl => va_get (D := X.1) (ci := 0) (C := RX0) (T := TX0) (N := 3) h.hx h.hb h.hts lw_x0 h.ho h.hK hP (iL s i) (by rw [wl_get (iL_lt hs hi), enc_L X hs hi]) rfl 1 (by decide) (h.hts (.fieldLink RX0 13 "BranchBets$Loan" "debtor" "I") (lw_in 99 (by decide +kernel) rfl)) (fun _ h9 => h9) rfl hd (k H locs ls hP hS hl)
theorem gp0_13 (h : Ok l x X cc RX0 d) {s i : Nat} (hs : s < 6) (hi : i < 8) {v : Int32} (hd : decode cc pc = .ok (.putfield 13, 3)) (k : G x X (pu σ (iL s i) 1 v) L st (pc + 3)) : G x X σ L (.int v :: ra X (iL s i) :: st) pc := fun H locs ls hP hS hl => va_put (D := X.1) (ci := 0) (v := .int v) (ty := .int) (C := RX0) (T := TX0) (N := 3) h.hx h.hb h.hts lw_x0 tyX0 tyX0_ok nmX0 h.ho h.hK hP (wl_D h.hA σ) hS (iL s i) (by rw [wl_get (iL_lt hs hi), enc_L X hs hi]) rfl 1 (by decide) (h.hts (.fieldLink RX0 13 "BranchBets$Loan" "debtor" "I") (lw_in 99 (by decide +kernel) rfl)) (fun _ h9 => h9) rfl (by decide +kernel) rfl rfl (Nat.le_of_ble_eq_true rfl) hd (fun H1 locs1 hP1 hD1 hS1 => k H1 locs1 ls (by rw [wl_set (σ' := pu σ (iL s i) 1 v) (by rw [enc_L X hs hi]; simp [pu]) (fun k' hne => pu_ne k' hne) (fun _ _ => rfl)] at hP1; exact hP1) hS1 hl)
theorem gf3_91 (h : Ok l x X cc RX3 d) {s i : Nat} (hs : s < 6) (hi : i < 8) (hd : decode cc pc = .ok (.getfield 91, 3)) (k : G x X σ L (.int (σ.1 (iL s i) 1) :: st) (pc + 3)) : G x X σ L (ra X (iL s i) :: st) pc := fun H locs ls hP hS hl => va_get (D := X.1) (ci := 0) (C := RX0) (T := TX0) (N := 3) h.hx h.hb h.hts lw_x0 h.ho h.hK hP (iL s i) (by rw [wl_get (iL_lt hs hi), enc_L X hs hi]) rfl 1 (by decide) (h.hts (.fieldLink RX3 91 "BranchBets$Loan" "debtor" "I") (lw_in 100 (by decide +kernel) rfl)) (fun _ h9 => h9) rfl hd (k H locs ls hP hS hl)
theorem gp3_91 (h : Ok l x X cc RX3 d) {s i : Nat} (hs : s < 6) (hi : i < 8) {v : Int32} (hd : decode cc pc = .ok (.putfield 91, 3)) (k : G x X (pu σ (iL s i) 1 v) L st (pc + 3)) : G x X σ L (.int v :: ra X (iL s i) :: st) pc := fun H locs ls hP hS hl => va_put (D := X.1) (ci := 0) (v := .int v) (ty := .int) (C := RX0) (T := TX0) (N := 3) h.hx h.hb h.hts lw_x0 tyX0 tyX0_ok nmX0 h.ho h.hK hP (wl_D h.hA σ) hS (iL s i) (by rw [wl_get (iL_lt hs hi), enc_L X hs hi]) rfl 1 (by decide) (h.hts (.fieldLink RX3 91 "BranchBets$Loan" "debtor" "I") (lw_in 100 (by decide +kernel) rfl)) (fun _ h9 => h9) rfl (by decide +kernel) rfl rfl (Nat.le_of_ble_eq_true rfl) hd (fun H1 locs1 hP1 hD1 hS1 => k H1 locs1 ls (by rw [wl_set (σ' := pu σ (iL s i) 1 v) (by rw [enc_L X hs hi]; simp [pu]) (fun k' hne => pu_ne k' hne) (fun _ _ => rfl)] at hP1; exact hP1) hS1 hl)
theorem gf5_155 (h : Ok l x X cc RX5 d) {s i : Nat} (hs : s < 6) (hi : i < 8) (hd : decode cc pc = .ok (.getfield 155, 3)) (k : G x X σ L (.int (σ.1 (iL s i) 1) :: st) (pc + 3)) : G x X σ L (ra X (iL s i) :: st) pc := fun H locs ls hP hS hl => va_get (D := X.1) (ci := 0) (C := RX0) (T := TX0) (N := 3) h.hx h.hb h.hts lw_x0 h.ho h.hK hP (iL s i) (by rw [wl_get (iL_lt hs hi), enc_L X hs hi]) rfl 1 (by decide) (h.hts (.fieldLink RX5 155 "BranchBets$Loan" "debtor" "I") (lw_in 101 (by decide +kernel) rfl)) (fun _ h9 => h9) rfl hd (k H locs ls hP hS hl)
theorem gp5_155 (h : Ok l x X cc RX5 d) {s i : Nat} (hs : s < 6) (hi : i < 8) {v : Int32} (hd : decode cc pc = .ok (.putfield 155, 3)) (k : G x X (pu σ (iL s i) 1 v) L st (pc + 3)) : G x X σ L (.int v :: ra X (iL s i) :: st) pc := fun H locs ls hP hS hl => va_put (D := X.1) (ci := 0) (v := .int v) (ty := .int) (C := RX0) (T := TX0) (N := 3) h.hx h.hb h.hts lw_x0 tyX0 tyX0_ok nmX0 h.ho h.hK hP (wl_D h.hA σ) hS (iL s i) (by rw [wl_get (iL_lt hs hi), enc_L X hs hi]) rfl 1 (by decide) (h.hts (.fieldLink RX5 155 "BranchBets$Loan" "debtor" "I") (lw_in 101 (by decide +kernel) rfl)) (fun _ h9 => h9) rfl (by decide +kernel) rfl rfl (Nat.le_of_ble_eq_true rfl) hd (fun H1 locs1 hP1 hD1 hS1 => k H1 locs1 ls (by rw [wl_set (σ' := pu σ (iL s i) 1 v) (by rw [enc_L X hs hi]; simp [pu]) (fun k' hne => pu_ne k' hne) (fun _ _ => rfl)] at hP1; exact hP1) hS1 hl)
theorem gf0_16 (h : Ok l x X cc RX0 d) {s i : Nat} (hs : s < 6) (hi : i < 8) (hd : decode cc pc = .ok (.getfield 16, 3)) (k : G x X σ L (.int (σ.1 (iL s i) 2) :: st) (pc + 3)) : G x X σ L (ra X (iL s i) :: st) pc := fun H locs ls hP hS hl => va_get (D := X.1) (ci := 0) (C := RX0) (T := TX0) (N := 3) h.hx h.hb h.hts lw_x0 h.ho h.hK hP (iL s i) (by rw [wl_get (iL_lt hs hi), enc_L X hs hi]) rfl 2 (by decide) (h.hts (.fieldLink RX0 16 "BranchBets$Loan" "owed" "I") (lw_in 102 (by decide +kernel) rfl)) (fun _ h9 => h9) rfl hd (k H locs ls hP hS hl)
theorem gp0_16 (h : Ok l x X cc RX0 d) {s i : Nat} (hs : s < 6) (hi : i < 8) {v : Int32} (hd : decode cc pc = .ok (.putfield 16, 3)) (k : G x X (pu σ (iL s i) 2 v) L st (pc + 3)) : G x X σ L (.int v :: ra X (iL s i) :: st) pc := fun H locs ls hP hS hl => va_put (D := X.1) (ci := 0) (v := .int v) (ty := .int) (C := RX0) (T := TX0) (N := 3) h.hx h.hb h.hts lw_x0 tyX0 tyX0_ok nmX0 h.ho h.hK hP (wl_D h.hA σ) hS (iL s i) (by rw [wl_get (iL_lt hs hi), enc_L X hs hi]) rfl 2 (by decide) (h.hts (.fieldLink RX0 16 "BranchBets$Loan" "owed" "I") (lw_in 102 (by decide +kernel) rfl)) (fun _ h9 => h9) rfl (by decide +kernel) rfl rfl (Nat.le_of_ble_eq_true rfl) hd (fun H1 locs1 hP1 hD1 hS1 => k H1 locs1 ls (by rw [wl_set (σ' := pu σ (iL s i) 2 v) (by rw [enc_L X hs hi]; simp [pu]) (fun k' hne => pu_ne k' hne) (fun _ _ => rfl)] at hP1; exact hP1) hS1 hl)
theorem gf3_94 (h : Ok l x X cc RX3 d) {s i : Nat} (hs : s < 6) (hi : i < 8) (hd : decode cc pc = .ok (.getfield 94, 3)) (k : G x X σ L (.int (σ.1 (iL s i) 2) :: st) (pc + 3)) : G x X σ L (ra X (iL s i) :: st) pc := fun H locs ls hP hS hl => va_get (D := X.1) (ci := 0) (C := RX0) (T := TX0) (N := 3) h.hx h.hb h.hts lw_x0 h.ho h.hK hP (iL s i) (by rw [wl_get (iL_lt hs hi), enc_L X hs hi]) rfl 2 (by decide) (h.hts (.fieldLink RX3 94 "BranchBets$Loan" "owed" "I") (lw_in 103 (by decide +kernel) rfl)) (fun _ h9 => h9) rfl hd (k H locs ls hP hS hl)
theorem gp3_94 (h : Ok l x X cc RX3 d) {s i : Nat} (hs : s < 6) (hi : i < 8) {v : Int32} (hd : decode cc pc = .ok (.putfield 94, 3)) (k : G x X (pu σ (iL s i) 2 v) L st (pc + 3)) : G x X σ L (.int v :: ra X (iL s i) :: st) pc := fun H locs ls hP hS hl => va_put (D := X.1) (ci := 0) (v := .int v) (ty := .int) (C := RX0) (T := TX0) (N := 3) h.hx h.hb h.hts lw_x0 tyX0 tyX0_ok nmX0 h.ho h.hK hP (wl_D h.hA σ) hS (iL s i) (by rw [wl_get (iL_lt hs hi), enc_L X hs hi]) rfl 2 (by decide) (h.hts (.fieldLink RX3 94 "BranchBets$Loan" "owed" "I") (lw_in 103 (by decide +kernel) rfl)) (fun _ h9 => h9) rfl (by decide +kernel) rfl rfl (Nat.le_of_ble_eq_true rfl) hd (fun H1 locs1 hP1 hD1 hS1 => k H1 locs1 ls (by rw [wl_set (σ' := pu σ (iL s i) 2 v) (by rw [enc_L X hs hi]; simp [pu]) (fun k' hne => pu_ne k' hne) (fun _ _ => rfl)] at hP1; exact hP1) hS1 hl)
theorem gf5_158 (h : Ok l x X cc RX5 d) {s i : Nat} (hs : s < 6) (hi : i < 8) (hd : decode cc pc = .ok (.getfield 158, 3)) (k : G x X σ L (.int (σ.1 (iL s i) 2) :: st) (pc + 3)) : G x X σ L (ra X (iL s i) :: st) pc := fun H locs ls hP hS hl => va_get (D := X.1) (ci := 0) (C := RX0) (T := TX0) (N := 3) h.hx h.hb h.hts lw_x0 h.ho h.hK hP (iL s i) (by rw [wl_get (iL_lt hs hi), enc_L X hs hi]) rfl 2 (by decide) (h.hts (.fieldLink RX5 158 "BranchBets$Loan" "owed" "I") (lw_in 104 (by decide +kernel) rfl)) (fun _ h9 => h9) rfl hd (k H locs ls hP hS hl)
theorem gp5_158 (h : Ok l x X cc RX5 d) {s i : Nat} (hs : s < 6) (hi : i < 8) {v : Int32} (hd : decode cc pc = .ok (.putfield 158, 3)) (k : G x X (pu σ (iL s i) 2 v) L st (pc + 3)) : G x X σ L (.int v :: ra X (iL s i) :: st) pc := fun H locs ls hP hS hl => va_put (D := X.1) (ci := 0) (v := .int v) (ty := .int) (C := RX0) (T := TX0) (N := 3) h.hx h.hb h.hts lw_x0 tyX0 tyX0_ok nmX0 h.ho h.hK hP (wl_D h.hA σ) hS (iL s i) (by rw [wl_get (iL_lt hs hi), enc_L X hs hi]) rfl 2 (by decide) (h.hts (.fieldLink RX5 158 "BranchBets$Loan" "owed" "I") (lw_in 104 (by decide +kernel) rfl)) (fun _ h9 => h9) rfl (by decide +kernel) rfl rfl (Nat.le_of_ble_eq_true rfl) hd (fun H1 locs1 hP1 hD1 hS1 => k H1 locs1 ls (by rw [wl_set (σ' := pu σ (iL s i) 2 v) (by rw [enc_L X hs hi]; simp [pu]) (fun k' hne => pu_ne k' hne) (fun _ _ => rfl)] at hP1; exact hP1) hS1 hl)
theorem gf3_11 (h : Ok l x X cc RX3 d) {s : Nat} (hs : s < 6) (hd : decode cc pc = .ok (.getfield 11, 3)) (k : G x X σ L (ra X (iOs s) :: st) (pc + 3)) : G x X σ L (ra X (iS s) :: st) pc := fun H locs ls hP hS hl => va_get (D := X.1) (ci := 3) (C := RX3) (T := TX3) (N := 10) h.hx h.hb h.hts lw_x3 h.ho h.hK hP (iS s) (by rw [wl_get (iS_lt hs), enc_S X hs]) rfl 0 (by decide) (h.hts (.fieldLink RX3 11 "BranchBets$State" "oracles" "[LBranchBets$Oracle;") (lw_in 114 (by decide +kernel) rfl)) (fun _ h9 => h9) rfl hd (k H locs ls hP hS hl)
theorem gf5_61 (h : Ok l x X cc RX5 d) {s : Nat} (hs : s < 6) (hd : decode cc pc = .ok (.getfield 61, 3)) (k : G x X σ L (ra X (iOs s) :: st) (pc + 3)) : G x X σ L (ra X (iS s) :: st) pc := fun H locs ls hP hS hl => va_get (D := X.1) (ci := 3) (C := RX3) (T := TX3) (N := 10) h.hx h.hb h.hts lw_x3 h.ho h.hK hP (iS s) (by rw [wl_get (iS_lt hs), enc_S X hs]) rfl 0 (by decide) (h.hts (.fieldLink RX5 61 "BranchBets$State" "oracles" "[LBranchBets$Oracle;") (lw_in 115 (by decide +kernel) rfl)) (fun _ h9 => h9) rfl hd (k H locs ls hP hS hl)
theorem gf3_20 (h : Ok l x X cc RX3 d) {s : Nat} (hs : s < 6) (hd : decode cc pc = .ok (.getfield 20, 3)) (k : G x X σ L (ra X (iLs s) :: st) (pc + 3)) : G x X σ L (ra X (iS s) :: st) pc := fun H locs ls hP hS hl => va_get (D := X.1) (ci := 3) (C := RX3) (T := TX3) (N := 10) h.hx h.hb h.hts lw_x3 h.ho h.hK hP (iS s) (by rw [wl_get (iS_lt hs), enc_S X hs]) rfl 1 (by decide) (h.hts (.fieldLink RX3 20 "BranchBets$State" "loans" "[LBranchBets$Loan;") (lw_in 116 (by decide +kernel) rfl)) (fun _ h9 => h9) rfl hd (k H locs ls hP hS hl)
theorem gf5_146 (h : Ok l x X cc RX5 d) {s : Nat} (hs : s < 6) (hd : decode cc pc = .ok (.getfield 146, 3)) (k : G x X σ L (ra X (iLs s) :: st) (pc + 3)) : G x X σ L (ra X (iS s) :: st) pc := fun H locs ls hP hS hl => va_get (D := X.1) (ci := 3) (C := RX3) (T := TX3) (N := 10) h.hx h.hb h.hts lw_x3 h.ho h.hK hP (iS s) (by rw [wl_get (iS_lt hs), enc_S X hs]) rfl 1 (by decide) (h.hts (.fieldLink RX5 146 "BranchBets$State" "loans" "[LBranchBets$Loan;") (lw_in 117 (by decide +kernel) rfl)) (fun _ h9 => h9) rfl hd (k H locs ls hP hS hl)
theorem gf3_25 (h : Ok l x X cc RX3 d) {s : Nat} (hs : s < 6) (hd : decode cc pc = .ok (.getfield 25, 3)) (k : G x X σ L (ra X (iSet s) :: st) (pc + 3)) : G x X σ L (ra X (iS s) :: st) pc := fun H locs ls hP hS hl => va_get (D := X.1) (ci := 3) (C := RX3) (T := TX3) (N := 10) h.hx h.hb h.hts lw_x3 h.ho h.hK hP (iS s) (by rw [wl_get (iS_lt hs), enc_S X hs]) rfl 2 (by decide) (h.hts (.fieldLink RX3 25 "BranchBets$State" "settings" "[I") (lw_in 118 (by decide +kernel) rfl)) (fun _ h9 => h9) rfl hd (k H locs ls hP hS hl)
theorem gf5_49 (h : Ok l x X cc RX5 d) {s : Nat} (hs : s < 6) (hd : decode cc pc = .ok (.getfield 49, 3)) (k : G x X σ L (ra X (iSet s) :: st) (pc + 3)) : G x X σ L (ra X (iS s) :: st) pc := fun H locs ls hP hS hl => va_get (D := X.1) (ci := 3) (C := RX3) (T := TX3) (N := 10) h.hx h.hb h.hts lw_x3 h.ho h.hK hP (iS s) (by rw [wl_get (iS_lt hs), enc_S X hs]) rfl 2 (by decide) (h.hts (.fieldLink RX5 49 "BranchBets$State" "settings" "[I") (lw_in 119 (by decide +kernel) rfl)) (fun _ h9 => h9) rfl hd (k H locs ls hP hS hl)
theorem gf3_32 (h : Ok l x X cc RX3 d) {s : Nat} (hs : s < 6) (hd : decode cc pc = .ok (.getfield 32, 3)) (k : G x X σ L (.int (σ.1 (iS s) 3) :: st) (pc + 3)) : G x X σ L (ra X (iS s) :: st) pc := fun H locs ls hP hS hl => va_get (D := X.1) (ci := 3) (C := RX3) (T := TX3) (N := 10) h.hx h.hb h.hts lw_x3 h.ho h.hK hP (iS s) (by rw [wl_get (iS_lt hs), enc_S X hs]) rfl 3 (by decide) (h.hts (.fieldLink RX3 32 "BranchBets$State" "oracleCount" "I") (lw_in 120 (by decide +kernel) rfl)) (fun _ h9 => h9) rfl hd (k H locs ls hP hS hl)
theorem gp3_32 (h : Ok l x X cc RX3 d) {s : Nat} (hs : s < 6) {v : Int32} (hd : decode cc pc = .ok (.putfield 32, 3)) (k : G x X (pu σ (iS s) 3 v) L st (pc + 3)) : G x X σ L (.int v :: ra X (iS s) :: st) pc := fun H locs ls hP hS hl => va_put (D := X.1) (ci := 3) (v := .int v) (ty := .int) (C := RX3) (T := TX3) (N := 10) h.hx h.hb h.hts lw_x3 tyX3 tyX3_ok nmX3 h.ho h.hK hP (wl_D h.hA σ) hS (iS s) (by rw [wl_get (iS_lt hs), enc_S X hs]) rfl 3 (by decide) (h.hts (.fieldLink RX3 32 "BranchBets$State" "oracleCount" "I") (lw_in 120 (by decide +kernel) rfl)) (fun _ h9 => h9) rfl (by decide +kernel) rfl rfl (Nat.le_of_ble_eq_true rfl) hd (fun H1 locs1 hP1 hD1 hS1 => k H1 locs1 ls (by rw [wl_set (σ' := pu σ (iS s) 3 v) (by rw [enc_S X hs]; simp [pu]) (fun k' hne => pu_ne k' hne) (fun _ _ => rfl)] at hP1; exact hP1) hS1 hl)
theorem gf5_56 (h : Ok l x X cc RX5 d) {s : Nat} (hs : s < 6) (hd : decode cc pc = .ok (.getfield 56, 3)) (k : G x X σ L (.int (σ.1 (iS s) 3) :: st) (pc + 3)) : G x X σ L (ra X (iS s) :: st) pc := fun H locs ls hP hS hl => va_get (D := X.1) (ci := 3) (C := RX3) (T := TX3) (N := 10) h.hx h.hb h.hts lw_x3 h.ho h.hK hP (iS s) (by rw [wl_get (iS_lt hs), enc_S X hs]) rfl 3 (by decide) (h.hts (.fieldLink RX5 56 "BranchBets$State" "oracleCount" "I") (lw_in 121 (by decide +kernel) rfl)) (fun _ h9 => h9) rfl hd (k H locs ls hP hS hl)
theorem gp5_56 (h : Ok l x X cc RX5 d) {s : Nat} (hs : s < 6) {v : Int32} (hd : decode cc pc = .ok (.putfield 56, 3)) (k : G x X (pu σ (iS s) 3 v) L st (pc + 3)) : G x X σ L (.int v :: ra X (iS s) :: st) pc := fun H locs ls hP hS hl => va_put (D := X.1) (ci := 3) (v := .int v) (ty := .int) (C := RX3) (T := TX3) (N := 10) h.hx h.hb h.hts lw_x3 tyX3 tyX3_ok nmX3 h.ho h.hK hP (wl_D h.hA σ) hS (iS s) (by rw [wl_get (iS_lt hs), enc_S X hs]) rfl 3 (by decide) (h.hts (.fieldLink RX5 56 "BranchBets$State" "oracleCount" "I") (lw_in 121 (by decide +kernel) rfl)) (fun _ h9 => h9) rfl (by decide +kernel) rfl rfl (Nat.le_of_ble_eq_true rfl) hd (fun H1 locs1 hP1 hD1 hS1 => k H1 locs1 ls (by rw [wl_set (σ' := pu σ (iS s) 3 v) (by rw [enc_S X hs]; simp [pu]) (fun k' hne => pu_ne k' hne) (fun _ _ => rfl)] at hP1; exact hP1) hS1 hl)
theorem gf3_40 (h : Ok l x X cc RX3 d) {s : Nat} (hs : s < 6) (hd : decode cc pc = .ok (.getfield 40, 3)) (k : G x X σ L (.int (σ.1 (iS s) 4) :: st) (pc + 3)) : G x X σ L (ra X (iS s) :: st) pc := fun H locs ls hP hS hl => va_get (D := X.1) (ci := 3) (C := RX3) (T := TX3) (N := 10) h.hx h.hb h.hts lw_x3 h.ho h.hK hP (iS s) (by rw [wl_get (iS_lt hs), enc_S X hs]) rfl 4 (by decide) (h.hts (.fieldLink RX3 40 "BranchBets$State" "loanCount" "I") (lw_in 122 (by decide +kernel) rfl)) (fun _ h9 => h9) rfl hd (k H locs ls hP hS hl)
theorem gp3_40 (h : Ok l x X cc RX3 d) {s : Nat} (hs : s < 6) {v : Int32} (hd : decode cc pc = .ok (.putfield 40, 3)) (k : G x X (pu σ (iS s) 4 v) L st (pc + 3)) : G x X σ L (.int v :: ra X (iS s) :: st) pc := fun H locs ls hP hS hl => va_put (D := X.1) (ci := 3) (v := .int v) (ty := .int) (C := RX3) (T := TX3) (N := 10) h.hx h.hb h.hts lw_x3 tyX3 tyX3_ok nmX3 h.ho h.hK hP (wl_D h.hA σ) hS (iS s) (by rw [wl_get (iS_lt hs), enc_S X hs]) rfl 4 (by decide) (h.hts (.fieldLink RX3 40 "BranchBets$State" "loanCount" "I") (lw_in 122 (by decide +kernel) rfl)) (fun _ h9 => h9) rfl (by decide +kernel) rfl rfl (Nat.le_of_ble_eq_true rfl) hd (fun H1 locs1 hP1 hD1 hS1 => k H1 locs1 ls (by rw [wl_set (σ' := pu σ (iS s) 4 v) (by rw [enc_S X hs]; simp [pu]) (fun k' hne => pu_ne k' hne) (fun _ _ => rfl)] at hP1; exact hP1) hS1 hl)
theorem gf5_100 (h : Ok l x X cc RX5 d) {s : Nat} (hs : s < 6) (hd : decode cc pc = .ok (.getfield 100, 3)) (k : G x X σ L (.int (σ.1 (iS s) 4) :: st) (pc + 3)) : G x X σ L (ra X (iS s) :: st) pc := fun H locs ls hP hS hl => va_get (D := X.1) (ci := 3) (C := RX3) (T := TX3) (N := 10) h.hx h.hb h.hts lw_x3 h.ho h.hK hP (iS s) (by rw [wl_get (iS_lt hs), enc_S X hs]) rfl 4 (by decide) (h.hts (.fieldLink RX5 100 "BranchBets$State" "loanCount" "I") (lw_in 123 (by decide +kernel) rfl)) (fun _ h9 => h9) rfl hd (k H locs ls hP hS hl)
theorem gp5_100 (h : Ok l x X cc RX5 d) {s : Nat} (hs : s < 6) {v : Int32} (hd : decode cc pc = .ok (.putfield 100, 3)) (k : G x X (pu σ (iS s) 4 v) L st (pc + 3)) : G x X σ L (.int v :: ra X (iS s) :: st) pc := fun H locs ls hP hS hl => va_put (D := X.1) (ci := 3) (v := .int v) (ty := .int) (C := RX3) (T := TX3) (N := 10) h.hx h.hb h.hts lw_x3 tyX3 tyX3_ok nmX3 h.ho h.hK hP (wl_D h.hA σ) hS (iS s) (by rw [wl_get (iS_lt hs), enc_S X hs]) rfl 4 (by decide) (h.hts (.fieldLink RX5 100 "BranchBets$State" "loanCount" "I") (lw_in 123 (by decide +kernel) rfl)) (fun _ h9 => h9) rfl (by decide +kernel) rfl rfl (Nat.le_of_ble_eq_true rfl) hd (fun H1 locs1 hP1 hD1 hS1 => k H1 locs1 ls (by rw [wl_set (σ' := pu σ (iS s) 4 v) (by rw [enc_S X hs]; simp [pu]) (fun k' hne => pu_ne k' hne) (fun _ _ => rfl)] at hP1; exact hP1) hS1 hl)
theorem gf3_52 (h : Ok l x X cc RX3 d) {s : Nat} (hs : s < 6) (hd : decode cc pc = .ok (.getfield 52, 3)) (k : G x X σ L (.int (σ.1 (iS s) 5) :: st) (pc + 3)) : G x X σ L (ra X (iS s) :: st) pc := fun H locs ls hP hS hl => va_get (D := X.1) (ci := 3) (C := RX3) (T := TX3) (N := 10) h.hx h.hb h.hts lw_x3 h.ho h.hK hP (iS s) (by rw [wl_get (iS_lt hs), enc_S X hs]) rfl 5 (by decide) (h.hts (.fieldLink RX3 52 "BranchBets$State" "houseCoins" "I") (lw_in 124 (by decide +kernel) rfl)) (fun _ h9 => h9) rfl hd (k H locs ls hP hS hl)
theorem gp3_52 (h : Ok l x X cc RX3 d) {s : Nat} (hs : s < 6) {v : Int32} (hd : decode cc pc = .ok (.putfield 52, 3)) (k : G x X (pu σ (iS s) 5 v) L st (pc + 3)) : G x X σ L (.int v :: ra X (iS s) :: st) pc := fun H locs ls hP hS hl => va_put (D := X.1) (ci := 3) (v := .int v) (ty := .int) (C := RX3) (T := TX3) (N := 10) h.hx h.hb h.hts lw_x3 tyX3 tyX3_ok nmX3 h.ho h.hK hP (wl_D h.hA σ) hS (iS s) (by rw [wl_get (iS_lt hs), enc_S X hs]) rfl 5 (by decide) (h.hts (.fieldLink RX3 52 "BranchBets$State" "houseCoins" "I") (lw_in 124 (by decide +kernel) rfl)) (fun _ h9 => h9) rfl (by decide +kernel) rfl rfl (Nat.le_of_ble_eq_true rfl) hd (fun H1 locs1 hP1 hD1 hS1 => k H1 locs1 ls (by rw [wl_set (σ' := pu σ (iS s) 5 v) (by rw [enc_S X hs]; simp [pu]) (fun k' hne => pu_ne k' hne) (fun _ _ => rfl)] at hP1; exact hP1) hS1 hl)
theorem gf5_208 (h : Ok l x X cc RX5 d) {s : Nat} (hs : s < 6) (hd : decode cc pc = .ok (.getfield 208, 3)) (k : G x X σ L (.int (σ.1 (iS s) 5) :: st) (pc + 3)) : G x X σ L (ra X (iS s) :: st) pc := fun H locs ls hP hS hl => va_get (D := X.1) (ci := 3) (C := RX3) (T := TX3) (N := 10) h.hx h.hb h.hts lw_x3 h.ho h.hK hP (iS s) (by rw [wl_get (iS_lt hs), enc_S X hs]) rfl 5 (by decide) (h.hts (.fieldLink RX5 208 "BranchBets$State" "houseCoins" "I") (lw_in 125 (by decide +kernel) rfl)) (fun _ h9 => h9) rfl hd (k H locs ls hP hS hl)
theorem gp5_208 (h : Ok l x X cc RX5 d) {s : Nat} (hs : s < 6) {v : Int32} (hd : decode cc pc = .ok (.putfield 208, 3)) (k : G x X (pu σ (iS s) 5 v) L st (pc + 3)) : G x X σ L (.int v :: ra X (iS s) :: st) pc := fun H locs ls hP hS hl => va_put (D := X.1) (ci := 3) (v := .int v) (ty := .int) (C := RX3) (T := TX3) (N := 10) h.hx h.hb h.hts lw_x3 tyX3 tyX3_ok nmX3 h.ho h.hK hP (wl_D h.hA σ) hS (iS s) (by rw [wl_get (iS_lt hs), enc_S X hs]) rfl 5 (by decide) (h.hts (.fieldLink RX5 208 "BranchBets$State" "houseCoins" "I") (lw_in 125 (by decide +kernel) rfl)) (fun _ h9 => h9) rfl (by decide +kernel) rfl rfl (Nat.le_of_ble_eq_true rfl) hd (fun H1 locs1 hP1 hD1 hS1 => k H1 locs1 ls (by rw [wl_set (σ' := pu σ (iS s) 5 v) (by rw [enc_S X hs]; simp [pu]) (fun k' hne => pu_ne k' hne) (fun _ _ => rfl)] at hP1; exact hP1) hS1 hl)
theorem gf3_55 (h : Ok l x X cc RX3 d) {s : Nat} (hs : s < 6) (hd : decode cc pc = .ok (.getfield 55, 3)) (k : G x X σ L (.int (σ.1 (iS s) 6) :: st) (pc + 3)) : G x X σ L (ra X (iS s) :: st) pc := fun H locs ls hP hS hl => va_get (D := X.1) (ci := 3) (C := RX3) (T := TX3) (N := 10) h.hx h.hb h.hts lw_x3 h.ho h.hK hP (iS s) (by rw [wl_get (iS_lt hs), enc_S X hs]) rfl 6 (by decide) (h.hts (.fieldLink RX3 55 "BranchBets$State" "history" "I") (lw_in 126 (by decide +kernel) rfl)) (fun _ h9 => h9) rfl hd (k H locs ls hP hS hl)
theorem gp3_55 (h : Ok l x X cc RX3 d) {s : Nat} (hs : s < 6) {v : Int32} (hd : decode cc pc = .ok (.putfield 55, 3)) (k : G x X (pu σ (iS s) 6 v) L st (pc + 3)) : G x X σ L (.int v :: ra X (iS s) :: st) pc := fun H locs ls hP hS hl => va_put (D := X.1) (ci := 3) (v := .int v) (ty := .int) (C := RX3) (T := TX3) (N := 10) h.hx h.hb h.hts lw_x3 tyX3 tyX3_ok nmX3 h.ho h.hK hP (wl_D h.hA σ) hS (iS s) (by rw [wl_get (iS_lt hs), enc_S X hs]) rfl 6 (by decide) (h.hts (.fieldLink RX3 55 "BranchBets$State" "history" "I") (lw_in 126 (by decide +kernel) rfl)) (fun _ h9 => h9) rfl (by decide +kernel) rfl rfl (Nat.le_of_ble_eq_true rfl) hd (fun H1 locs1 hP1 hD1 hS1 => k H1 locs1 ls (by rw [wl_set (σ' := pu σ (iS s) 6 v) (by rw [enc_S X hs]; simp [pu]) (fun k' hne => pu_ne k' hne) (fun _ _ => rfl)] at hP1; exact hP1) hS1 hl)
theorem gf5_164 (h : Ok l x X cc RX5 d) {s : Nat} (hs : s < 6) (hd : decode cc pc = .ok (.getfield 164, 3)) (k : G x X σ L (.int (σ.1 (iS s) 6) :: st) (pc + 3)) : G x X σ L (ra X (iS s) :: st) pc := fun H locs ls hP hS hl => va_get (D := X.1) (ci := 3) (C := RX3) (T := TX3) (N := 10) h.hx h.hb h.hts lw_x3 h.ho h.hK hP (iS s) (by rw [wl_get (iS_lt hs), enc_S X hs]) rfl 6 (by decide) (h.hts (.fieldLink RX5 164 "BranchBets$State" "history" "I") (lw_in 127 (by decide +kernel) rfl)) (fun _ h9 => h9) rfl hd (k H locs ls hP hS hl)
theorem gp5_164 (h : Ok l x X cc RX5 d) {s : Nat} (hs : s < 6) {v : Int32} (hd : decode cc pc = .ok (.putfield 164, 3)) (k : G x X (pu σ (iS s) 6 v) L st (pc + 3)) : G x X σ L (.int v :: ra X (iS s) :: st) pc := fun H locs ls hP hS hl => va_put (D := X.1) (ci := 3) (v := .int v) (ty := .int) (C := RX3) (T := TX3) (N := 10) h.hx h.hb h.hts lw_x3 tyX3 tyX3_ok nmX3 h.ho h.hK hP (wl_D h.hA σ) hS (iS s) (by rw [wl_get (iS_lt hs), enc_S X hs]) rfl 6 (by decide) (h.hts (.fieldLink RX5 164 "BranchBets$State" "history" "I") (lw_in 127 (by decide +kernel) rfl)) (fun _ h9 => h9) rfl (by decide +kernel) rfl rfl (Nat.le_of_ble_eq_true rfl) hd (fun H1 locs1 hP1 hD1 hS1 => k H1 locs1 ls (by rw [wl_set (σ' := pu σ (iS s) 6 v) (by rw [enc_S X hs]; simp [pu]) (fun k' hne => pu_ne k' hne) (fun _ _ => rfl)] at hP1; exact hP1) hS1 hl)
theorem gf3_58 (h : Ok l x X cc RX3 d) {s : Nat} (hs : s < 6) (hd : decode cc pc = .ok (.getfield 58, 3)) (k : G x X σ L (.int (σ.1 (iS s) 7) :: st) (pc + 3)) : G x X σ L (ra X (iS s) :: st) pc := fun H locs ls hP hS hl => va_get (D := X.1) (ci := 3) (C := RX3) (T := TX3) (N := 10) h.hx h.hb h.hts lw_x3 h.ho h.hK hP (iS s) (by rw [wl_get (iS_lt hs), enc_S X hs]) rfl 7 (by decide) (h.hts (.fieldLink RX3 58 "BranchBets$State" "branches" "I") (lw_in 128 (by decide +kernel) rfl)) (fun _ h9 => h9) rfl hd (k H locs ls hP hS hl)
theorem gp3_58 (h : Ok l x X cc RX3 d) {s : Nat} (hs : s < 6) {v : Int32} (hd : decode cc pc = .ok (.putfield 58, 3)) (k : G x X (pu σ (iS s) 7 v) L st (pc + 3)) : G x X σ L (.int v :: ra X (iS s) :: st) pc := fun H locs ls hP hS hl => va_put (D := X.1) (ci := 3) (v := .int v) (ty := .int) (C := RX3) (T := TX3) (N := 10) h.hx h.hb h.hts lw_x3 tyX3 tyX3_ok nmX3 h.ho h.hK hP (wl_D h.hA σ) hS (iS s) (by rw [wl_get (iS_lt hs), enc_S X hs]) rfl 7 (by decide) (h.hts (.fieldLink RX3 58 "BranchBets$State" "branches" "I") (lw_in 128 (by decide +kernel) rfl)) (fun _ h9 => h9) rfl (by decide +kernel) rfl rfl (Nat.le_of_ble_eq_true rfl) hd (fun H1 locs1 hP1 hD1 hS1 => k H1 locs1 ls (by rw [wl_set (σ' := pu σ (iS s) 7 v) (by rw [enc_S X hs]; simp [pu]) (fun k' hne => pu_ne k' hne) (fun _ _ => rfl)] at hP1; exact hP1) hS1 hl)
theorem gf5_214 (h : Ok l x X cc RX5 d) {s : Nat} (hs : s < 6) (hd : decode cc pc = .ok (.getfield 214, 3)) (k : G x X σ L (.int (σ.1 (iS s) 7) :: st) (pc + 3)) : G x X σ L (ra X (iS s) :: st) pc := fun H locs ls hP hS hl => va_get (D := X.1) (ci := 3) (C := RX3) (T := TX3) (N := 10) h.hx h.hb h.hts lw_x3 h.ho h.hK hP (iS s) (by rw [wl_get (iS_lt hs), enc_S X hs]) rfl 7 (by decide) (h.hts (.fieldLink RX5 214 "BranchBets$State" "branches" "I") (lw_in 129 (by decide +kernel) rfl)) (fun _ h9 => h9) rfl hd (k H locs ls hP hS hl)
theorem gp5_214 (h : Ok l x X cc RX5 d) {s : Nat} (hs : s < 6) {v : Int32} (hd : decode cc pc = .ok (.putfield 214, 3)) (k : G x X (pu σ (iS s) 7 v) L st (pc + 3)) : G x X σ L (.int v :: ra X (iS s) :: st) pc := fun H locs ls hP hS hl => va_put (D := X.1) (ci := 3) (v := .int v) (ty := .int) (C := RX3) (T := TX3) (N := 10) h.hx h.hb h.hts lw_x3 tyX3 tyX3_ok nmX3 h.ho h.hK hP (wl_D h.hA σ) hS (iS s) (by rw [wl_get (iS_lt hs), enc_S X hs]) rfl 7 (by decide) (h.hts (.fieldLink RX5 214 "BranchBets$State" "branches" "I") (lw_in 129 (by decide +kernel) rfl)) (fun _ h9 => h9) rfl (by decide +kernel) rfl rfl (Nat.le_of_ble_eq_true rfl) hd (fun H1 locs1 hP1 hD1 hS1 => k H1 locs1 ls (by rw [wl_set (σ' := pu σ (iS s) 7 v) (by rw [enc_S X hs]; simp [pu]) (fun k' hne => pu_ne k' hne) (fun _ _ => rfl)] at hP1; exact hP1) hS1 hl)
theorem gf3_61 (h : Ok l x X cc RX3 d) {s : Nat} (hs : s < 6) (hd : decode cc pc = .ok (.getfield 61, 3)) (k : G x X σ L (.int (σ.1 (iS s) 8) :: st) (pc + 3)) : G x X σ L (ra X (iS s) :: st) pc := fun H locs ls hP hS hl => va_get (D := X.1) (ci := 3) (C := RX3) (T := TX3) (N := 10) h.hx h.hb h.hts lw_x3 h.ho h.hK hP (iS s) (by rw [wl_get (iS_lt hs), enc_S X hs]) rfl 8 (by decide) (h.hts (.fieldLink RX3 61 "BranchBets$State" "bets" "I") (lw_in 130 (by decide +kernel) rfl)) (fun _ h9 => h9) rfl hd (k H locs ls hP hS hl)
theorem gp3_61 (h : Ok l x X cc RX3 d) {s : Nat} (hs : s < 6) {v : Int32} (hd : decode cc pc = .ok (.putfield 61, 3)) (k : G x X (pu σ (iS s) 8 v) L st (pc + 3)) : G x X σ L (.int v :: ra X (iS s) :: st) pc := fun H locs ls hP hS hl => va_put (D := X.1) (ci := 3) (v := .int v) (ty := .int) (C := RX3) (T := TX3) (N := 10) h.hx h.hb h.hts lw_x3 tyX3 tyX3_ok nmX3 h.ho h.hK hP (wl_D h.hA σ) hS (iS s) (by rw [wl_get (iS_lt hs), enc_S X hs]) rfl 8 (by decide) (h.hts (.fieldLink RX3 61 "BranchBets$State" "bets" "I") (lw_in 130 (by decide +kernel) rfl)) (fun _ h9 => h9) rfl (by decide +kernel) rfl rfl (Nat.le_of_ble_eq_true rfl) hd (fun H1 locs1 hP1 hD1 hS1 => k H1 locs1 ls (by rw [wl_set (σ' := pu σ (iS s) 8 v) (by rw [enc_S X hs]; simp [pu]) (fun k' hne => pu_ne k' hne) (fun _ _ => rfl)] at hP1; exact hP1) hS1 hl)
theorem gf5_217 (h : Ok l x X cc RX5 d) {s : Nat} (hs : s < 6) (hd : decode cc pc = .ok (.getfield 217, 3)) (k : G x X σ L (.int (σ.1 (iS s) 8) :: st) (pc + 3)) : G x X σ L (ra X (iS s) :: st) pc := fun H locs ls hP hS hl => va_get (D := X.1) (ci := 3) (C := RX3) (T := TX3) (N := 10) h.hx h.hb h.hts lw_x3 h.ho h.hK hP (iS s) (by rw [wl_get (iS_lt hs), enc_S X hs]) rfl 8 (by decide) (h.hts (.fieldLink RX5 217 "BranchBets$State" "bets" "I") (lw_in 131 (by decide +kernel) rfl)) (fun _ h9 => h9) rfl hd (k H locs ls hP hS hl)
theorem gp5_217 (h : Ok l x X cc RX5 d) {s : Nat} (hs : s < 6) {v : Int32} (hd : decode cc pc = .ok (.putfield 217, 3)) (k : G x X (pu σ (iS s) 8 v) L st (pc + 3)) : G x X σ L (.int v :: ra X (iS s) :: st) pc := fun H locs ls hP hS hl => va_put (D := X.1) (ci := 3) (v := .int v) (ty := .int) (C := RX3) (T := TX3) (N := 10) h.hx h.hb h.hts lw_x3 tyX3 tyX3_ok nmX3 h.ho h.hK hP (wl_D h.hA σ) hS (iS s) (by rw [wl_get (iS_lt hs), enc_S X hs]) rfl 8 (by decide) (h.hts (.fieldLink RX5 217 "BranchBets$State" "bets" "I") (lw_in 131 (by decide +kernel) rfl)) (fun _ h9 => h9) rfl (by decide +kernel) rfl rfl (Nat.le_of_ble_eq_true rfl) hd (fun H1 locs1 hP1 hD1 hS1 => k H1 locs1 ls (by rw [wl_set (σ' := pu σ (iS s) 8 v) (by rw [enc_S X hs]; simp [pu]) (fun k' hne => pu_ne k' hne) (fun _ _ => rfl)] at hP1; exact hP1) hS1 hl)
theorem gf3_64 (h : Ok l x X cc RX3 d) {s : Nat} (hs : s < 6) (hd : decode cc pc = .ok (.getfield 64, 3)) (k : G x X σ L (.long (σ.2 (iS s)) :: st) (pc + 3)) : G x X σ L (ra X (iS s) :: st) pc := fun H locs ls hP hS hl => va_get (D := X.1) (ci := 3) (C := RX3) (T := TX3) (N := 10) h.hx h.hb h.hts lw_x3 h.ho h.hK hP (iS s) (by rw [wl_get (iS_lt hs), enc_S X hs]) rfl 9 (by decide) (h.hts (.fieldLink RX3 64 "BranchBets$State" "seenAddresses" "J") (lw_in 132 (by decide +kernel) rfl)) (fun _ h9 => h9) rfl hd (k H locs ls hP hS hl)
theorem gp3_64 (h : Ok l x X cc RX3 d) {s : Nat} (hs : s < 6) {v : Int64} (hd : decode cc pc = .ok (.putfield 64, 3)) (k : G x X (puL σ (iS s) v) L st (pc + 3)) : G x X σ L (.long v :: ra X (iS s) :: st) pc := fun H locs ls hP hS hl => va_put (D := X.1) (ci := 3) (v := .long v) (ty := .long) (C := RX3) (T := TX3) (N := 10) h.hx h.hb h.hts lw_x3 tyX3 tyX3_ok nmX3 h.ho h.hK hP (wl_D h.hA σ) hS (iS s) (by rw [wl_get (iS_lt hs), enc_S X hs]) rfl 9 (by decide) (h.hts (.fieldLink RX3 64 "BranchBets$State" "seenAddresses" "J") (lw_in 132 (by decide +kernel) rfl)) (fun _ h9 => h9) rfl (by decide +kernel) rfl rfl (Nat.le_of_ble_eq_true rfl) hd (fun H1 locs1 hP1 hD1 hS1 => k H1 locs1 ls (by rw [wl_set (σ := σ) (σ' := puL σ (iS s) v) (by rw [enc_S X hs]; simp [puL]) (fun _ _ => rfl) (fun k' hne => by simp [puL, hne])] at hP1; exact hP1) hS1 hl)
theorem gf2_11 (h : Ok l x X cc RX2 d)  (hd : decode cc pc = .ok (.getfield 11, 3)) (k : G x X σ L (ra X (2) :: st) (pc + 3)) : G x X σ L (ra X (1) :: st) pc := fun H locs ls hP hS hl => va_get (D := X.1) (ci := 2) (C := RX2) (T := TX2) (N := 3) h.hx h.hb h.hts lw_x2 h.ho h.hK hP (1) (by rw [wl_get (by decide), enc_1 X]) rfl 0 (by decide) (h.hts (.fieldLink RX2 11 "BranchBets$Past" "states" "[LBranchBets$State;") (lw_in 163 (by decide +kernel) rfl)) (fun _ h9 => h9) rfl hd (k H locs ls hP hS hl)
theorem gf2_18 (h : Ok l x X cc RX2 d)  (hd : decode cc pc = .ok (.getfield 18, 3)) (k : G x X σ L (.int (σ.1 (1) 1) :: st) (pc + 3)) : G x X σ L (ra X (1) :: st) pc := fun H locs ls hP hS hl => va_get (D := X.1) (ci := 2) (C := RX2) (T := TX2) (N := 3) h.hx h.hb h.hts lw_x2 h.ho h.hK hP (1) (by rw [wl_get (by decide), enc_1 X]) rfl 1 (by decide) (h.hts (.fieldLink RX2 18 "BranchBets$Past" "first" "I") (lw_in 164 (by decide +kernel) rfl)) (fun _ h9 => h9) rfl hd (k H locs ls hP hS hl)
theorem gp2_18 (h : Ok l x X cc RX2 d)  {v : Int32} (hd : decode cc pc = .ok (.putfield 18, 3)) (k : G x X (pu σ (1) 1 v) L st (pc + 3)) : G x X σ L (.int v :: ra X (1) :: st) pc := fun H locs ls hP hS hl => va_put (D := X.1) (ci := 2) (v := .int v) (ty := .int) (C := RX2) (T := TX2) (N := 3) h.hx h.hb h.hts lw_x2 tyX2 tyX2_ok nmX2 h.ho h.hK hP (wl_D h.hA σ) hS (1) (by rw [wl_get (by decide), enc_1 X]) rfl 1 (by decide) (h.hts (.fieldLink RX2 18 "BranchBets$Past" "first" "I") (lw_in 164 (by decide +kernel) rfl)) (fun _ h9 => h9) rfl (by decide +kernel) rfl rfl (Nat.le_of_ble_eq_true rfl) hd (fun H1 locs1 hP1 hD1 hS1 => k H1 locs1 ls (by rw [wl_set (σ' := pu σ (1) 1 v) (by rw [enc_1 X]; simp [pu]) (fun k' hne => pu_ne k' hne) (fun _ _ => rfl)] at hP1; exact hP1) hS1 hl)
theorem gf2_22 (h : Ok l x X cc RX2 d)  (hd : decode cc pc = .ok (.getfield 22, 3)) (k : G x X σ L (.int (σ.1 (1) 2) :: st) (pc + 3)) : G x X σ L (ra X (1) :: st) pc := fun H locs ls hP hS hl => va_get (D := X.1) (ci := 2) (C := RX2) (T := TX2) (N := 3) h.hx h.hb h.hts lw_x2 h.ho h.hK hP (1) (by rw [wl_get (by decide), enc_1 X]) rfl 2 (by decide) (h.hts (.fieldLink RX2 22 "BranchBets$Past" "size" "I") (lw_in 165 (by decide +kernel) rfl)) (fun _ h9 => h9) rfl hd (k H locs ls hP hS hl)
theorem gp2_22 (h : Ok l x X cc RX2 d)  {v : Int32} (hd : decode cc pc = .ok (.putfield 22, 3)) (k : G x X (pu σ (1) 2 v) L st (pc + 3)) : G x X σ L (.int v :: ra X (1) :: st) pc := fun H locs ls hP hS hl => va_put (D := X.1) (ci := 2) (v := .int v) (ty := .int) (C := RX2) (T := TX2) (N := 3) h.hx h.hb h.hts lw_x2 tyX2 tyX2_ok nmX2 h.ho h.hK hP (wl_D h.hA σ) hS (1) (by rw [wl_get (by decide), enc_1 X]) rfl 2 (by decide) (h.hts (.fieldLink RX2 22 "BranchBets$Past" "size" "I") (lw_in 165 (by decide +kernel) rfl)) (fun _ h9 => h9) rfl (by decide +kernel) rfl rfl (Nat.le_of_ble_eq_true rfl) hd (fun H1 locs1 hP1 hD1 hS1 => k H1 locs1 ls (by rw [wl_set (σ' := pu σ (1) 2 v) (by rw [enc_1 X]; simp [pu]) (fun k' hne => pu_ne k' hne) (fun _ _ => rfl)] at hP1; exact hP1) hS1 hl)
theorem gf5_220 (h : Ok l x X cc RX5 d)  (hd : decode cc pc = .ok (.getfield 220, 3)) (k : G x X σ L (.int (σ.1 (1) 2) :: st) (pc + 3)) : G x X σ L (ra X (1) :: st) pc := fun H locs ls hP hS hl => va_get (D := X.1) (ci := 2) (C := RX2) (T := TX2) (N := 3) h.hx h.hb h.hts lw_x2 h.ho h.hK hP (1) (by rw [wl_get (by decide), enc_1 X]) rfl 2 (by decide) (h.hts (.fieldLink RX5 220 "BranchBets$Past" "size" "I") (lw_in 166 (by decide +kernel) rfl)) (fun _ h9 => h9) rfl hd (k H locs ls hP hS hl)
theorem gp5_220 (h : Ok l x X cc RX5 d)  {v : Int32} (hd : decode cc pc = .ok (.putfield 220, 3)) (k : G x X (pu σ (1) 2 v) L st (pc + 3)) : G x X σ L (.int v :: ra X (1) :: st) pc := fun H locs ls hP hS hl => va_put (D := X.1) (ci := 2) (v := .int v) (ty := .int) (C := RX2) (T := TX2) (N := 3) h.hx h.hb h.hts lw_x2 tyX2 tyX2_ok nmX2 h.ho h.hK hP (wl_D h.hA σ) hS (1) (by rw [wl_get (by decide), enc_1 X]) rfl 2 (by decide) (h.hts (.fieldLink RX5 220 "BranchBets$Past" "size" "I") (lw_in 166 (by decide +kernel) rfl)) (fun _ h9 => h9) rfl (by decide +kernel) rfl rfl (Nat.le_of_ble_eq_true rfl) hd (fun H1 locs1 hP1 hD1 hS1 => k H1 locs1 ls (by rw [wl_set (σ' := pu σ (1) 2 v) (by rw [enc_1 X]; simp [pu]) (fun k' hne => pu_ne k' hne) (fun _ _ => rfl)] at hP1; exact hP1) hS1 hl)
theorem gf4_9 (h : Ok l x X cc RX4 d)  (hd : decode cc pc = .ok (.getfield 9, 3)) (k : G x X σ L (ra X (4) :: st) (pc + 3)) : G x X σ L (ra X (3) :: st) pc := fun H locs ls hP hS hl => va_get (D := X.1) (ci := 4) (C := RX4) (T := TX4) (N := 8) h.hx h.hb h.hts lw_x4 h.ho h.hK hP (3) (by rw [wl_get (by decide), enc_3 X]) rfl 0 (by decide) (h.hts (.fieldLink RX4 9 "BranchBets$Text" "characters" "[C") (lw_in 180 (by decide +kernel) rfl)) (fun _ h9 => h9) rfl hd (k H locs ls hP hS hl)
theorem gf4_15 (h : Ok l x X cc RX4 d)  (hd : decode cc pc = .ok (.getfield 15, 3)) (k : G x X σ L (ra X (5) :: st) (pc + 3)) : G x X σ L (ra X (3) :: st) pc := fun H locs ls hP hS hl => va_get (D := X.1) (ci := 4) (C := RX4) (T := TX4) (N := 8) h.hx h.hb h.hts lw_x4 h.ho h.hK hP (3) (by rw [wl_get (by decide), enc_3 X]) rfl 1 (by decide) (h.hts (.fieldLink RX4 15 "BranchBets$Text" "numbers" "[I") (lw_in 181 (by decide +kernel) rfl)) (fun _ h9 => h9) rfl hd (k H locs ls hP hS hl)
theorem gf5_259 (h : Ok l x X cc RX5 d)  (hd : decode cc pc = .ok (.getfield 259, 3)) (k : G x X σ L (ra X (5) :: st) (pc + 3)) : G x X σ L (ra X (3) :: st) pc := fun H locs ls hP hS hl => va_get (D := X.1) (ci := 4) (C := RX4) (T := TX4) (N := 8) h.hx h.hb h.hts lw_x4 h.ho h.hK hP (3) (by rw [wl_get (by decide), enc_3 X]) rfl 1 (by decide) (h.hts (.fieldLink RX5 259 "BranchBets$Text" "numbers" "[I") (lw_in 182 (by decide +kernel) rfl)) (fun _ h9 => h9) rfl hd (k H locs ls hP hS hl)
theorem gf4_19 (h : Ok l x X cc RX4 d)  (hd : decode cc pc = .ok (.getfield 19, 3)) (k : G x X σ L (.int (σ.1 (3) 2) :: st) (pc + 3)) : G x X σ L (ra X (3) :: st) pc := fun H locs ls hP hS hl => va_get (D := X.1) (ci := 4) (C := RX4) (T := TX4) (N := 8) h.hx h.hb h.hts lw_x4 h.ho h.hK hP (3) (by rw [wl_get (by decide), enc_3 X]) rfl 2 (by decide) (h.hts (.fieldLink RX4 19 "BranchBets$Text" "length" "I") (lw_in 183 (by decide +kernel) rfl)) (fun _ h9 => h9) rfl hd (k H locs ls hP hS hl)
theorem gp4_19 (h : Ok l x X cc RX4 d)  {v : Int32} (hd : decode cc pc = .ok (.putfield 19, 3)) (k : G x X (pu σ (3) 2 v) L st (pc + 3)) : G x X σ L (.int v :: ra X (3) :: st) pc := fun H locs ls hP hS hl => va_put (D := X.1) (ci := 4) (v := .int v) (ty := .int) (C := RX4) (T := TX4) (N := 8) h.hx h.hb h.hts lw_x4 tyX4 tyX4_ok nmX4 h.ho h.hK hP (wl_D h.hA σ) hS (3) (by rw [wl_get (by decide), enc_3 X]) rfl 2 (by decide) (h.hts (.fieldLink RX4 19 "BranchBets$Text" "length" "I") (lw_in 183 (by decide +kernel) rfl)) (fun _ h9 => h9) rfl (by decide +kernel) rfl rfl (Nat.le_of_ble_eq_true rfl) hd (fun H1 locs1 hP1 hD1 hS1 => k H1 locs1 ls (by rw [wl_set (σ' := pu σ (3) 2 v) (by rw [enc_3 X]; simp [pu]) (fun k' hne => pu_ne k' hne) (fun _ _ => rfl)] at hP1; exact hP1) hS1 hl)
theorem gf5_223 (h : Ok l x X cc RX5 d)  (hd : decode cc pc = .ok (.getfield 223, 3)) (k : G x X σ L (.int (σ.1 (3) 2) :: st) (pc + 3)) : G x X σ L (ra X (3) :: st) pc := fun H locs ls hP hS hl => va_get (D := X.1) (ci := 4) (C := RX4) (T := TX4) (N := 8) h.hx h.hb h.hts lw_x4 h.ho h.hK hP (3) (by rw [wl_get (by decide), enc_3 X]) rfl 2 (by decide) (h.hts (.fieldLink RX5 223 "BranchBets$Text" "length" "I") (lw_in 184 (by decide +kernel) rfl)) (fun _ h9 => h9) rfl hd (k H locs ls hP hS hl)
theorem gp5_223 (h : Ok l x X cc RX5 d)  {v : Int32} (hd : decode cc pc = .ok (.putfield 223, 3)) (k : G x X (pu σ (3) 2 v) L st (pc + 3)) : G x X σ L (.int v :: ra X (3) :: st) pc := fun H locs ls hP hS hl => va_put (D := X.1) (ci := 4) (v := .int v) (ty := .int) (C := RX4) (T := TX4) (N := 8) h.hx h.hb h.hts lw_x4 tyX4 tyX4_ok nmX4 h.ho h.hK hP (wl_D h.hA σ) hS (3) (by rw [wl_get (by decide), enc_3 X]) rfl 2 (by decide) (h.hts (.fieldLink RX5 223 "BranchBets$Text" "length" "I") (lw_in 184 (by decide +kernel) rfl)) (fun _ h9 => h9) rfl (by decide +kernel) rfl rfl (Nat.le_of_ble_eq_true rfl) hd (fun H1 locs1 hP1 hD1 hS1 => k H1 locs1 ls (by rw [wl_set (σ' := pu σ (3) 2 v) (by rw [enc_3 X]; simp [pu]) (fun k' hne => pu_ne k' hne) (fun _ _ => rfl)] at hP1; exact hP1) hS1 hl)
theorem gf4_33 (h : Ok l x X cc RX4 d)  (hd : decode cc pc = .ok (.getfield 33, 3)) (k : G x X σ L (.int (σ.1 (3) 3) :: st) (pc + 3)) : G x X σ L (ra X (3) :: st) pc := fun H locs ls hP hS hl => va_get (D := X.1) (ci := 4) (C := RX4) (T := TX4) (N := 8) h.hx h.hb h.hts lw_x4 h.ho h.hK hP (3) (by rw [wl_get (by decide), enc_3 X]) rfl 3 (by decide) (h.hts (.fieldLink RX4 33 "BranchBets$Text" "start" "I") (lw_in 185 (by decide +kernel) rfl)) (fun _ h9 => h9) rfl hd (k H locs ls hP hS hl)
theorem gp4_33 (h : Ok l x X cc RX4 d)  {v : Int32} (hd : decode cc pc = .ok (.putfield 33, 3)) (k : G x X (pu σ (3) 3 v) L st (pc + 3)) : G x X σ L (.int v :: ra X (3) :: st) pc := fun H locs ls hP hS hl => va_put (D := X.1) (ci := 4) (v := .int v) (ty := .int) (C := RX4) (T := TX4) (N := 8) h.hx h.hb h.hts lw_x4 tyX4 tyX4_ok nmX4 h.ho h.hK hP (wl_D h.hA σ) hS (3) (by rw [wl_get (by decide), enc_3 X]) rfl 3 (by decide) (h.hts (.fieldLink RX4 33 "BranchBets$Text" "start" "I") (lw_in 185 (by decide +kernel) rfl)) (fun _ h9 => h9) rfl (by decide +kernel) rfl rfl (Nat.le_of_ble_eq_true rfl) hd (fun H1 locs1 hP1 hD1 hS1 => k H1 locs1 ls (by rw [wl_set (σ' := pu σ (3) 3 v) (by rw [enc_3 X]; simp [pu]) (fun k' hne => pu_ne k' hne) (fun _ _ => rfl)] at hP1; exact hP1) hS1 hl)
theorem gf5_236 (h : Ok l x X cc RX5 d)  (hd : decode cc pc = .ok (.getfield 236, 3)) (k : G x X σ L (.int (σ.1 (3) 3) :: st) (pc + 3)) : G x X σ L (ra X (3) :: st) pc := fun H locs ls hP hS hl => va_get (D := X.1) (ci := 4) (C := RX4) (T := TX4) (N := 8) h.hx h.hb h.hts lw_x4 h.ho h.hK hP (3) (by rw [wl_get (by decide), enc_3 X]) rfl 3 (by decide) (h.hts (.fieldLink RX5 236 "BranchBets$Text" "start" "I") (lw_in 186 (by decide +kernel) rfl)) (fun _ h9 => h9) rfl hd (k H locs ls hP hS hl)
theorem gp5_236 (h : Ok l x X cc RX5 d)  {v : Int32} (hd : decode cc pc = .ok (.putfield 236, 3)) (k : G x X (pu σ (3) 3 v) L st (pc + 3)) : G x X σ L (.int v :: ra X (3) :: st) pc := fun H locs ls hP hS hl => va_put (D := X.1) (ci := 4) (v := .int v) (ty := .int) (C := RX4) (T := TX4) (N := 8) h.hx h.hb h.hts lw_x4 tyX4 tyX4_ok nmX4 h.ho h.hK hP (wl_D h.hA σ) hS (3) (by rw [wl_get (by decide), enc_3 X]) rfl 3 (by decide) (h.hts (.fieldLink RX5 236 "BranchBets$Text" "start" "I") (lw_in 186 (by decide +kernel) rfl)) (fun _ h9 => h9) rfl (by decide +kernel) rfl rfl (Nat.le_of_ble_eq_true rfl) hd (fun H1 locs1 hP1 hD1 hS1 => k H1 locs1 ls (by rw [wl_set (σ' := pu σ (3) 3 v) (by rw [enc_3 X]; simp [pu]) (fun k' hne => pu_ne k' hne) (fun _ _ => rfl)] at hP1; exact hP1) hS1 hl)
theorem gf4_30 (h : Ok l x X cc RX4 d)  (hd : decode cc pc = .ok (.getfield 30, 3)) (k : G x X σ L (.int (σ.1 (3) 4) :: st) (pc + 3)) : G x X σ L (ra X (3) :: st) pc := fun H locs ls hP hS hl => va_get (D := X.1) (ci := 4) (C := RX4) (T := TX4) (N := 8) h.hx h.hb h.hts lw_x4 h.ho h.hK hP (3) (by rw [wl_get (by decide), enc_3 X]) rfl 4 (by decide) (h.hts (.fieldLink RX4 30 "BranchBets$Text" "end" "I") (lw_in 187 (by decide +kernel) rfl)) (fun _ h9 => h9) rfl hd (k H locs ls hP hS hl)
theorem gp4_30 (h : Ok l x X cc RX4 d)  {v : Int32} (hd : decode cc pc = .ok (.putfield 30, 3)) (k : G x X (pu σ (3) 4 v) L st (pc + 3)) : G x X σ L (.int v :: ra X (3) :: st) pc := fun H locs ls hP hS hl => va_put (D := X.1) (ci := 4) (v := .int v) (ty := .int) (C := RX4) (T := TX4) (N := 8) h.hx h.hb h.hts lw_x4 tyX4 tyX4_ok nmX4 h.ho h.hK hP (wl_D h.hA σ) hS (3) (by rw [wl_get (by decide), enc_3 X]) rfl 4 (by decide) (h.hts (.fieldLink RX4 30 "BranchBets$Text" "end" "I") (lw_in 187 (by decide +kernel) rfl)) (fun _ h9 => h9) rfl (by decide +kernel) rfl rfl (Nat.le_of_ble_eq_true rfl) hd (fun H1 locs1 hP1 hD1 hS1 => k H1 locs1 ls (by rw [wl_set (σ' := pu σ (3) 4 v) (by rw [enc_3 X]; simp [pu]) (fun k' hne => pu_ne k' hne) (fun _ _ => rfl)] at hP1; exact hP1) hS1 hl)
theorem gf5_251 (h : Ok l x X cc RX5 d)  (hd : decode cc pc = .ok (.getfield 251, 3)) (k : G x X σ L (.int (σ.1 (3) 4) :: st) (pc + 3)) : G x X σ L (ra X (3) :: st) pc := fun H locs ls hP hS hl => va_get (D := X.1) (ci := 4) (C := RX4) (T := TX4) (N := 8) h.hx h.hb h.hts lw_x4 h.ho h.hK hP (3) (by rw [wl_get (by decide), enc_3 X]) rfl 4 (by decide) (h.hts (.fieldLink RX5 251 "BranchBets$Text" "end" "I") (lw_in 188 (by decide +kernel) rfl)) (fun _ h9 => h9) rfl hd (k H locs ls hP hS hl)
theorem gp5_251 (h : Ok l x X cc RX5 d)  {v : Int32} (hd : decode cc pc = .ok (.putfield 251, 3)) (k : G x X (pu σ (3) 4 v) L st (pc + 3)) : G x X σ L (.int v :: ra X (3) :: st) pc := fun H locs ls hP hS hl => va_put (D := X.1) (ci := 4) (v := .int v) (ty := .int) (C := RX4) (T := TX4) (N := 8) h.hx h.hb h.hts lw_x4 tyX4 tyX4_ok nmX4 h.ho h.hK hP (wl_D h.hA σ) hS (3) (by rw [wl_get (by decide), enc_3 X]) rfl 4 (by decide) (h.hts (.fieldLink RX5 251 "BranchBets$Text" "end" "I") (lw_in 188 (by decide +kernel) rfl)) (fun _ h9 => h9) rfl (by decide +kernel) rfl rfl (Nat.le_of_ble_eq_true rfl) hd (fun H1 locs1 hP1 hD1 hS1 => k H1 locs1 ls (by rw [wl_set (σ' := pu σ (3) 4 v) (by rw [enc_3 X]; simp [pu]) (fun k' hne => pu_ne k' hne) (fun _ _ => rfl)] at hP1; exact hP1) hS1 hl)
theorem gf4_46 (h : Ok l x X cc RX4 d)  (hd : decode cc pc = .ok (.getfield 46, 3)) (k : G x X σ L (.int (σ.1 (3) 5) :: st) (pc + 3)) : G x X σ L (ra X (3) :: st) pc := fun H locs ls hP hS hl => va_get (D := X.1) (ci := 4) (C := RX4) (T := TX4) (N := 8) h.hx h.hb h.hts lw_x4 h.ho h.hK hP (3) (by rw [wl_get (by decide), enc_3 X]) rfl 5 (by decide) (h.hts (.fieldLink RX4 46 "BranchBets$Text" "word" "I") (lw_in 189 (by decide +kernel) rfl)) (fun _ h9 => h9) rfl hd (k H locs ls hP hS hl)
theorem gp4_46 (h : Ok l x X cc RX4 d)  {v : Int32} (hd : decode cc pc = .ok (.putfield 46, 3)) (k : G x X (pu σ (3) 5 v) L st (pc + 3)) : G x X σ L (.int v :: ra X (3) :: st) pc := fun H locs ls hP hS hl => va_put (D := X.1) (ci := 4) (v := .int v) (ty := .int) (C := RX4) (T := TX4) (N := 8) h.hx h.hb h.hts lw_x4 tyX4 tyX4_ok nmX4 h.ho h.hK hP (wl_D h.hA σ) hS (3) (by rw [wl_get (by decide), enc_3 X]) rfl 5 (by decide) (h.hts (.fieldLink RX4 46 "BranchBets$Text" "word" "I") (lw_in 189 (by decide +kernel) rfl)) (fun _ h9 => h9) rfl (by decide +kernel) rfl rfl (Nat.le_of_ble_eq_true rfl) hd (fun H1 locs1 hP1 hD1 hS1 => k H1 locs1 ls (by rw [wl_set (σ' := pu σ (3) 5 v) (by rw [enc_3 X]; simp [pu]) (fun k' hne => pu_ne k' hne) (fun _ _ => rfl)] at hP1; exact hP1) hS1 hl)
theorem gf5_256 (h : Ok l x X cc RX5 d)  (hd : decode cc pc = .ok (.getfield 256, 3)) (k : G x X σ L (.int (σ.1 (3) 5) :: st) (pc + 3)) : G x X σ L (ra X (3) :: st) pc := fun H locs ls hP hS hl => va_get (D := X.1) (ci := 4) (C := RX4) (T := TX4) (N := 8) h.hx h.hb h.hts lw_x4 h.ho h.hK hP (3) (by rw [wl_get (by decide), enc_3 X]) rfl 5 (by decide) (h.hts (.fieldLink RX5 256 "BranchBets$Text" "word" "I") (lw_in 190 (by decide +kernel) rfl)) (fun _ h9 => h9) rfl hd (k H locs ls hP hS hl)
theorem gp5_256 (h : Ok l x X cc RX5 d)  {v : Int32} (hd : decode cc pc = .ok (.putfield 256, 3)) (k : G x X (pu σ (3) 5 v) L st (pc + 3)) : G x X σ L (.int v :: ra X (3) :: st) pc := fun H locs ls hP hS hl => va_put (D := X.1) (ci := 4) (v := .int v) (ty := .int) (C := RX4) (T := TX4) (N := 8) h.hx h.hb h.hts lw_x4 tyX4 tyX4_ok nmX4 h.ho h.hK hP (wl_D h.hA σ) hS (3) (by rw [wl_get (by decide), enc_3 X]) rfl 5 (by decide) (h.hts (.fieldLink RX5 256 "BranchBets$Text" "word" "I") (lw_in 190 (by decide +kernel) rfl)) (fun _ h9 => h9) rfl (by decide +kernel) rfl rfl (Nat.le_of_ble_eq_true rfl) hd (fun H1 locs1 hP1 hD1 hS1 => k H1 locs1 ls (by rw [wl_set (σ' := pu σ (3) 5 v) (by rw [enc_3 X]; simp [pu]) (fun k' hne => pu_ne k' hne) (fun _ _ => rfl)] at hP1; exact hP1) hS1 hl)
theorem gf4_27 (h : Ok l x X cc RX4 d)  (hd : decode cc pc = .ok (.getfield 27, 3)) (k : G x X σ L (.int (σ.1 (3) 6) :: st) (pc + 3)) : G x X σ L (ra X (3) :: st) pc := fun H locs ls hP hS hl => va_get (D := X.1) (ci := 4) (C := RX4) (T := TX4) (N := 8) h.hx h.hb h.hts lw_x4 h.ho h.hK hP (3) (by rw [wl_get (by decide), enc_3 X]) rfl 6 (by decide) (h.hts (.fieldLink RX4 27 "BranchBets$Text" "reason" "I") (lw_in 191 (by decide +kernel) rfl)) (fun _ h9 => h9) rfl hd (k H locs ls hP hS hl)
theorem gp4_27 (h : Ok l x X cc RX4 d)  {v : Int32} (hd : decode cc pc = .ok (.putfield 27, 3)) (k : G x X (pu σ (3) 6 v) L st (pc + 3)) : G x X σ L (.int v :: ra X (3) :: st) pc := fun H locs ls hP hS hl => va_put (D := X.1) (ci := 4) (v := .int v) (ty := .int) (C := RX4) (T := TX4) (N := 8) h.hx h.hb h.hts lw_x4 tyX4 tyX4_ok nmX4 h.ho h.hK hP (wl_D h.hA σ) hS (3) (by rw [wl_get (by decide), enc_3 X]) rfl 6 (by decide) (h.hts (.fieldLink RX4 27 "BranchBets$Text" "reason" "I") (lw_in 191 (by decide +kernel) rfl)) (fun _ h9 => h9) rfl (by decide +kernel) rfl rfl (Nat.le_of_ble_eq_true rfl) hd (fun H1 locs1 hP1 hD1 hS1 => k H1 locs1 ls (by rw [wl_set (σ' := pu σ (3) 6 v) (by rw [enc_3 X]; simp [pu]) (fun k' hne => pu_ne k' hne) (fun _ _ => rfl)] at hP1; exact hP1) hS1 hl)
theorem gf5_239 (h : Ok l x X cc RX5 d)  (hd : decode cc pc = .ok (.getfield 239, 3)) (k : G x X σ L (.int (σ.1 (3) 6) :: st) (pc + 3)) : G x X σ L (ra X (3) :: st) pc := fun H locs ls hP hS hl => va_get (D := X.1) (ci := 4) (C := RX4) (T := TX4) (N := 8) h.hx h.hb h.hts lw_x4 h.ho h.hK hP (3) (by rw [wl_get (by decide), enc_3 X]) rfl 6 (by decide) (h.hts (.fieldLink RX5 239 "BranchBets$Text" "reason" "I") (lw_in 192 (by decide +kernel) rfl)) (fun _ h9 => h9) rfl hd (k H locs ls hP hS hl)
theorem gp5_239 (h : Ok l x X cc RX5 d)  {v : Int32} (hd : decode cc pc = .ok (.putfield 239, 3)) (k : G x X (pu σ (3) 6 v) L st (pc + 3)) : G x X σ L (.int v :: ra X (3) :: st) pc := fun H locs ls hP hS hl => va_put (D := X.1) (ci := 4) (v := .int v) (ty := .int) (C := RX4) (T := TX4) (N := 8) h.hx h.hb h.hts lw_x4 tyX4 tyX4_ok nmX4 h.ho h.hK hP (wl_D h.hA σ) hS (3) (by rw [wl_get (by decide), enc_3 X]) rfl 6 (by decide) (h.hts (.fieldLink RX5 239 "BranchBets$Text" "reason" "I") (lw_in 192 (by decide +kernel) rfl)) (fun _ h9 => h9) rfl (by decide +kernel) rfl rfl (Nat.le_of_ble_eq_true rfl) hd (fun H1 locs1 hP1 hD1 hS1 => k H1 locs1 ls (by rw [wl_set (σ' := pu σ (3) 6 v) (by rw [enc_3 X]; simp [pu]) (fun k' hne => pu_ne k' hne) (fun _ _ => rfl)] at hP1; exact hP1) hS1 hl)
theorem gf4_36 (h : Ok l x X cc RX4 d)  (hd : decode cc pc = .ok (.getfield 36, 3)) (k : G x X σ L (.int (σ.1 (3) 7) :: st) (pc + 3)) : G x X σ L (ra X (3) :: st) pc := fun H locs ls hP hS hl => va_get (D := X.1) (ci := 4) (C := RX4) (T := TX4) (N := 8) h.hx h.hb h.hts lw_x4 h.ho h.hK hP (3) (by rw [wl_get (by decide), enc_3 X]) rfl 7 (by decide) (h.hts (.fieldLink RX4 36 "BranchBets$Text" "cause" "I") (lw_in 193 (by decide +kernel) rfl)) (fun _ h9 => h9) rfl hd (k H locs ls hP hS hl)
theorem gp4_36 (h : Ok l x X cc RX4 d)  {v : Int32} (hd : decode cc pc = .ok (.putfield 36, 3)) (k : G x X (pu σ (3) 7 v) L st (pc + 3)) : G x X σ L (.int v :: ra X (3) :: st) pc := fun H locs ls hP hS hl => va_put (D := X.1) (ci := 4) (v := .int v) (ty := .int) (C := RX4) (T := TX4) (N := 8) h.hx h.hb h.hts lw_x4 tyX4 tyX4_ok nmX4 h.ho h.hK hP (wl_D h.hA σ) hS (3) (by rw [wl_get (by decide), enc_3 X]) rfl 7 (by decide) (h.hts (.fieldLink RX4 36 "BranchBets$Text" "cause" "I") (lw_in 193 (by decide +kernel) rfl)) (fun _ h9 => h9) rfl (by decide +kernel) rfl rfl (Nat.le_of_ble_eq_true rfl) hd (fun H1 locs1 hP1 hD1 hS1 => k H1 locs1 ls (by rw [wl_set (σ' := pu σ (3) 7 v) (by rw [enc_3 X]; simp [pu]) (fun k' hne => pu_ne k' hne) (fun _ _ => rfl)] at hP1; exact hP1) hS1 hl)
theorem gf5_242 (h : Ok l x X cc RX5 d)  (hd : decode cc pc = .ok (.getfield 242, 3)) (k : G x X σ L (.int (σ.1 (3) 7) :: st) (pc + 3)) : G x X σ L (ra X (3) :: st) pc := fun H locs ls hP hS hl => va_get (D := X.1) (ci := 4) (C := RX4) (T := TX4) (N := 8) h.hx h.hb h.hts lw_x4 h.ho h.hK hP (3) (by rw [wl_get (by decide), enc_3 X]) rfl 7 (by decide) (h.hts (.fieldLink RX5 242 "BranchBets$Text" "cause" "I") (lw_in 194 (by decide +kernel) rfl)) (fun _ h9 => h9) rfl hd (k H locs ls hP hS hl)
theorem gp5_242 (h : Ok l x X cc RX5 d)  {v : Int32} (hd : decode cc pc = .ok (.putfield 242, 3)) (k : G x X (pu σ (3) 7 v) L st (pc + 3)) : G x X σ L (.int v :: ra X (3) :: st) pc := fun H locs ls hP hS hl => va_put (D := X.1) (ci := 4) (v := .int v) (ty := .int) (C := RX4) (T := TX4) (N := 8) h.hx h.hb h.hts lw_x4 tyX4 tyX4_ok nmX4 h.ho h.hK hP (wl_D h.hA σ) hS (3) (by rw [wl_get (by decide), enc_3 X]) rfl 7 (by decide) (h.hts (.fieldLink RX5 242 "BranchBets$Text" "cause" "I") (lw_in 194 (by decide +kernel) rfl)) (fun _ h9 => h9) rfl (by decide +kernel) rfl rfl (Nat.le_of_ble_eq_true rfl) hd (fun H1 locs1 hP1 hD1 hS1 => k H1 locs1 ls (by rw [wl_set (σ' := pu σ (3) 7 v) (by rw [enc_3 X]; simp [pu]) (fun k' hne => pu_ne k' hne) (fun _ _ => rfl)] at hP1; exact hP1) hS1 hl)
theorem gf5_10 (h : Ok l x X cc RX5 d)  (hd : decode cc pc = .ok (.getfield 10, 3)) (k : G x X σ L (ra X (iS 0) :: st) (pc + 3)) : G x X σ L (ra X (0) :: st) pc := fun H locs ls hP hS hl => va_get (D := X.1) (ci := 5) (C := RX5) (T := TX5) (N := 4) h.hx h.hb h.hts lw_x5 h.ho h.hK hP (0) (by rw [wl_get (by decide), enc_0 X]) rfl 0 (by decide) (h.hts (.fieldLink RX5 10 "BranchBets" "now" "LBranchBets$State;") (lw_in 213 (by decide +kernel) rfl)) (fun _ h9 => h9) rfl hd (k H locs ls hP hS hl)
theorem gf5_16 (h : Ok l x X cc RX5 d)  (hd : decode cc pc = .ok (.getfield 16, 3)) (k : G x X σ L (ra X (iS 1) :: st) (pc + 3)) : G x X σ L (ra X (0) :: st) pc := fun H locs ls hP hS hl => va_get (D := X.1) (ci := 5) (C := RX5) (T := TX5) (N := 4) h.hx h.hb h.hts lw_x5 h.ho h.hK hP (0) (by rw [wl_get (by decide), enc_0 X]) rfl 1 (by decide) (h.hts (.fieldLink RX5 16 "BranchBets" "trial" "LBranchBets$State;") (lw_in 214 (by decide +kernel) rfl)) (fun _ h9 => h9) rfl hd (k H locs ls hP hS hl)
theorem gf5_22 (h : Ok l x X cc RX5 d)  (hd : decode cc pc = .ok (.getfield 22, 3)) (k : G x X σ L (ra X (1) :: st) (pc + 3)) : G x X σ L (ra X (0) :: st) pc := fun H locs ls hP hS hl => va_get (D := X.1) (ci := 5) (C := RX5) (T := TX5) (N := 4) h.hx h.hb h.hts lw_x5 h.ho h.hK hP (0) (by rw [wl_get (by decide), enc_0 X]) rfl 2 (by decide) (h.hts (.fieldLink RX5 22 "BranchBets" "past" "LBranchBets$Past;") (lw_in 215 (by decide +kernel) rfl)) (fun _ h9 => h9) rfl hd (k H locs ls hP hS hl)
theorem gf5_29 (h : Ok l x X cc RX5 d)  (hd : decode cc pc = .ok (.getfield 29, 3)) (k : G x X σ L (ra X (3) :: st) (pc + 3)) : G x X σ L (ra X (0) :: st) pc := fun H locs ls hP hS hl => va_get (D := X.1) (ci := 5) (C := RX5) (T := TX5) (N := 4) h.hx h.hb h.hts lw_x5 h.ho h.hK hP (0) (by rw [wl_get (by decide), enc_0 X]) rfl 3 (by decide) (h.hts (.fieldLink RX5 29 "BranchBets" "text" "LBranchBets$Text;") (lw_in 216 (by decide +kernel) rfl)) (fun _ h9 => h9) rfl hd (k H locs ls hP hS hl)
theorem clL_13 (h : Ok l x X cc RL d)  {av rest : List Value} {d' : Nat} {r : Int32} {σ' : fM} (hC : Ct l X yX5_set cX5_set 4 (some .int) d' (ra X (0) :: av) σ (some (.int r)) σ') (hn : av.length = 2) (hd : decode cc pc = .ok (.invokevirtual 13, 3)) (hst : st = av.reverse ++ ra X (0) :: rest) (hcat : (rest.map fun v => v.category).sum ≤ 8) (hdd : d' < d) (kk : G x X σ' L (.int r :: rest) (pc + 3)) : G x X σ L st pc := g_callV h (n := 2) (ci := 5) (gd_V (lw_in 226 (by decide +kernel) rfl) (lw_in 227 (by decide +kernel) rfl) (lw_in 228 (by decide +kernel) rfl) (lw_in 1 (by decide +kernel) rfl) (lw_in 229 (by decide +kernel) rfl)) (by decide +kernel) rfl rfl (by decide) (enc_0 X _ _) (by decide) hn hC hd hst hcat hdd kk
theorem cl5_33 (h : Ok l x X cc RX5 d) {av rest : List Value} {d' : Nat} {r : Int32} {σ' : fM} (hC : Ct l X yX5_isWithin cX5_isWithin 3 (some .boolean) d' av σ (some (.int r)) σ') (hn : av.length = 3) (hd : decode cc pc = .ok (.invokestatic 33, 3)) (hst : st = av.reverse ++ rest) (hcat : (rest.map fun v => v.category).sum ≤ 8) (hdd : d' < d) (kk : G x X σ' L (.int r :: rest) (pc + 3)) : G x X σ L st pc := g_callS h (n := 3) (gd_T (lw_in 232 (by decide +kernel) rfl)) (lw_in 230 (by decide +kernel) rfl) (lw_in 231 (by decide +kernel) rfl) (lw_in 1 (by decide +kernel) rfl) (by decide +kernel) (by decide) hn hC hd hst hcat hdd kk
theorem cl5_45 (h : Ok l x X cc RX5 d)  {av rest : List Value} {d' : Nat} {σ' : fM} (hC : Ct l X yX2_keep cX2_keep 2 none d' (ra X (1) :: av) σ none σ') (hn : av.length = 1) (hd : decode cc pc = .ok (.invokevirtual 45, 3)) (hst : st = av.reverse ++ ra X (1) :: rest) (hcat : (rest.map fun v => v.category).sum ≤ 8) (hdd : d' < d) (kk : G x X σ' L (rest) (pc + 3)) : G x X σ L st pc := g_callV h (n := 1) (ci := 2) (gd_V (lw_in 238 (by decide +kernel) rfl) (lw_in 239 (by decide +kernel) rfl) (lw_in 240 (by decide +kernel) rfl) (lw_in 5 (by decide +kernel) rfl) (lw_in 241 (by decide +kernel) rfl)) (by decide +kernel) rfl rfl (by decide) (enc_1 X _ _) (by decide) hn hC hd hst hcat hdd kk
theorem cl2_25 (h : Ok l x X cc RX2 d) {s : Nat} (hs : s < 6) {av rest : List Value} {d' : Nat} {σ' : fM} (hC : Ct l X yX3_copyFrom cX3_copyFrom 3 none d' (ra X (iS s) :: av) σ none σ') (hn : av.length = 1) (hd : decode cc pc = .ok (.invokevirtual 25, 3)) (hst : st = av.reverse ++ ra X (iS s) :: rest) (hcat : (rest.map fun v => v.category).sum ≤ 8) (hdd : d' < d) (kk : G x X σ' L (rest) (pc + 3)) : G x X σ L st pc := g_callV h (n := 1) (ci := 3) (gd_V (lw_in 242 (by decide +kernel) rfl) (lw_in 243 (by decide +kernel) rfl) (lw_in 244 (by decide +kernel) rfl) (lw_in 2 (by decide +kernel) rfl) (lw_in 245 (by decide +kernel) rfl)) (by decide +kernel) rfl rfl (iS_lt hs) (enc_S X hs _ _) (by decide) hn hC hd hst hcat hdd kk
theorem cl3_36 (h : Ok l x X cc RX3 d) {s i : Nat} (hs : s < 6) (hi : i < 6) {av rest : List Value} {d' : Nat} {σ' : fM} (hC : Ct l X yX1_copyFrom cX1_copyFrom 2 none d' (ra X (iO s i) :: av) σ none σ') (hn : av.length = 1) (hd : decode cc pc = .ok (.invokevirtual 36, 3)) (hst : st = av.reverse ++ ra X (iO s i) :: rest) (hcat : (rest.map fun v => v.category).sum ≤ 8) (hdd : d' < d) (kk : G x X σ' L (rest) (pc + 3)) : G x X σ L st pc := g_callV h (n := 1) (ci := 1) (gd_V (lw_in 246 (by decide +kernel) rfl) (lw_in 247 (by decide +kernel) rfl) (lw_in 248 (by decide +kernel) rfl) (lw_in 3 (by decide +kernel) rfl) (lw_in 249 (by decide +kernel) rfl)) (by decide +kernel) rfl rfl (iO_lt hs hi) (enc_O X hs hi _ _) (by decide) hn hC hd hst hcat hdd kk
theorem cl3_43 (h : Ok l x X cc RX3 d) {s i : Nat} (hs : s < 6) (hi : i < 8) {av rest : List Value} {d' : Nat} {σ' : fM} (hC : Ct l X yX0_copyFrom cX0_copyFrom 2 none d' (ra X (iL s i) :: av) σ none σ') (hn : av.length = 1) (hd : decode cc pc = .ok (.invokevirtual 43, 3)) (hst : st = av.reverse ++ ra X (iL s i) :: rest) (hcat : (rest.map fun v => v.category).sum ≤ 8) (hdd : d' < d) (kk : G x X σ' L (rest) (pc + 3)) : G x X σ L st pc := g_callV h (n := 1) (ci := 0) (gd_V (lw_in 253 (by decide +kernel) rfl) (lw_in 254 (by decide +kernel) rfl) (lw_in 255 (by decide +kernel) rfl) (lw_in 4 (by decide +kernel) rfl) (lw_in 256 (by decide +kernel) rfl)) (by decide +kernel) rfl rfl (iL_lt hs hi) (enc_L X hs hi _ _) (by decide) hn hC hd hst hcat hdd kk
theorem clL_18 (h : Ok l x X cc RL d)  {av rest : List Value} {d' : Nat} {r : Int32} {σ' : fM} (hC : Ct l X yX5_oracle cX5_oracle 5 (some .int) d' (ra X (0) :: av) σ (some (.int r)) σ') (hn : av.length = 3) (hd : decode cc pc = .ok (.invokevirtual 18, 3)) (hst : st = av.reverse ++ ra X (0) :: rest) (hcat : (rest.map fun v => v.category).sum ≤ 8) (hdd : d' < d) (kk : G x X σ' L (.int r :: rest) (pc + 3)) : G x X σ L st pc := g_callV h (n := 3) (ci := 5) (gd_V (lw_in 258 (by decide +kernel) rfl) (lw_in 259 (by decide +kernel) rfl) (lw_in 260 (by decide +kernel) rfl) (lw_in 1 (by decide +kernel) rfl) (lw_in 261 (by decide +kernel) rfl)) (by decide +kernel) rfl rfl (by decide) (enc_0 X _ _) (by decide) hn hC hd hst hcat hdd kk
theorem cl5_52 (h : Ok l x X cc RX5 d) {av rest : List Value} {d' : Nat} {r : Int32} {σ' : fM} (hC : Ct l X yX5_mostNumberOf cX5_mostNumberOf 1 (some .int) d' av σ (some (.int r)) σ') (hn : av.length = 1) (hd : decode cc pc = .ok (.invokestatic 52, 3)) (hst : st = av.reverse ++ rest) (hcat : (rest.map fun v => v.category).sum ≤ 8) (hdd : d' < d) (kk : G x X σ' L (.int r :: rest) (pc + 3)) : G x X σ L st pc := g_callS h (n := 1) (gd_T (lw_in 264 (by decide +kernel) rfl)) (lw_in 262 (by decide +kernel) rfl) (lw_in 263 (by decide +kernel) rfl) (lw_in 1 (by decide +kernel) rfl) (by decide +kernel) (by decide) hn hC hd hst hcat hdd kk
theorem cl5_65 (h : Ok l x X cc RX5 d) {s i : Nat} (hs : s < 6) (hi : i < 6) {av rest : List Value} {d' : Nat} {σ' : fM} (hC : Ct l X yX1_begin cX1_begin 5 none d' (ra X (iO s i) :: av) σ none σ') (hn : av.length = 3) (hd : decode cc pc = .ok (.invokevirtual 65, 3)) (hst : st = av.reverse ++ ra X (iO s i) :: rest) (hcat : (rest.map fun v => v.category).sum ≤ 8) (hdd : d' < d) (kk : G x X σ' L (rest) (pc + 3)) : G x X σ L st pc := g_callV h (n := 3) (ci := 1) (gd_V (lw_in 266 (by decide +kernel) rfl) (lw_in 267 (by decide +kernel) rfl) (lw_in 268 (by decide +kernel) rfl) (lw_in 3 (by decide +kernel) rfl) (lw_in 269 (by decide +kernel) rfl)) (by decide +kernel) rfl rfl (iO_lt hs hi) (enc_O X hs hi _ _) (by decide) hn hC hd hst hcat hdd kk
theorem clL_23 (h : Ok l x X cc RL d)  {av rest : List Value} {d' : Nat} {r : Int32} {σ' : fM} (hC : Ct l X yX5_seat cX5_seat 5 (some .int) d' (ra X (0) :: av) σ (some (.int r)) σ') (hn : av.length = 2) (hd : decode cc pc = .ok (.invokevirtual 23, 3)) (hst : st = av.reverse ++ ra X (0) :: rest) (hcat : (rest.map fun v => v.category).sum ≤ 8) (hdd : d' < d) (kk : G x X σ' L (.int r :: rest) (pc + 3)) : G x X σ L st pc := g_callV h (n := 2) (ci := 5) (gd_V (lw_in 270 (by decide +kernel) rfl) (lw_in 271 (by decide +kernel) rfl) (lw_in 272 (by decide +kernel) rfl) (lw_in 1 (by decide +kernel) rfl) (lw_in 273 (by decide +kernel) rfl)) (by decide +kernel) rfl rfl (by decide) (enc_0 X _ _) (by decide) hn hC hd hst hcat hdd kk
theorem cl5_71 (h : Ok l x X cc RX5 d)  {av rest : List Value} {d' : Nat} {r : Int32} {σ' : fM} (hC : Ct l X yX5_isOracle cX5_isOracle 2 (some .boolean) d' (ra X (0) :: av) σ (some (.int r)) σ') (hn : av.length = 1) (hd : decode cc pc = .ok (.invokevirtual 71, 3)) (hst : st = av.reverse ++ ra X (0) :: rest) (hcat : (rest.map fun v => v.category).sum ≤ 8) (hdd : d' < d) (kk : G x X σ' L (.int r :: rest) (pc + 3)) : G x X σ L st pc := g_callV h (n := 1) (ci := 5) (gd_V (lw_in 274 (by decide +kernel) rfl) (lw_in 276 (by decide +kernel) rfl) (lw_sel 0 (by decide +kernel) rfl) (lw_in 1 (by decide +kernel) rfl) (lw_in 277 (by decide +kernel) rfl)) (by decide +kernel) rfl rfl (by decide) (enc_0 X _ _) (by decide) hn hC hd hst hcat hdd kk
theorem cl5_75 (h : Ok l x X cc RX5 d) {s i : Nat} (hs : s < 6) (hi : i < 6) {av rest : List Value} {d' : Nat} {r : Int32} {σ' : fM} (hC : Ct l X yX1_hasSeat cX1_hasSeat 1 (some .boolean) d' (ra X (iO s i) :: av) σ (some (.int r)) σ') (hn : av.length = 0) (hd : decode cc pc = .ok (.invokevirtual 75, 3)) (hst : st = av.reverse ++ ra X (iO s i) :: rest) (hcat : (rest.map fun v => v.category).sum ≤ 8) (hdd : d' < d) (kk : G x X σ' L (.int r :: rest) (pc + 3)) : G x X σ L st pc := g_callV h (n := 0) (ci := 1) (gd_V (lw_in 278 (by decide +kernel) rfl) (lw_in 279 (by decide +kernel) rfl) (lw_in 280 (by decide +kernel) rfl) (lw_in 3 (by decide +kernel) rfl) (lw_in 281 (by decide +kernel) rfl)) (by decide +kernel) rfl rfl (iO_lt hs hi) (enc_O X hs hi _ _) (by decide) hn hC hd hst hcat hdd kk
theorem cl5_79 (h : Ok l x X cc RX5 d) {av rest : List Value} {d' : Nat} {r : Int32} {σ' : fM} (hC : Ct l X yX5_takes cX5_takes 2 (some .boolean) d' av σ (some (.int r)) σ') (hn : av.length = 2) (hd : decode cc pc = .ok (.invokestatic 79, 3)) (hst : st = av.reverse ++ rest) (hcat : (rest.map fun v => v.category).sum ≤ 8) (hdd : d' < d) (kk : G x X σ' L (.int r :: rest) (pc + 3)) : G x X σ L st pc := g_callS h (n := 2) (gd_T (lw_in 284 (by decide +kernel) rfl)) (lw_in 282 (by decide +kernel) rfl) (lw_in 283 (by decide +kernel) rfl) (lw_in 1 (by decide +kernel) rfl) (by decide +kernel) (by decide) hn hC hd hst hcat hdd kk
theorem cl5_161 (h : Ok l x X cc RX5 d) {s i : Nat} (hs : s < 6) (hi : i < 6) {av rest : List Value} {d' : Nat} {r : Int32} {σ' : fM} (hC : Ct l X yX1_hasTable cX1_hasTable 1 (some .boolean) d' (ra X (iO s i) :: av) σ (some (.int r)) σ') (hn : av.length = 0) (hd : decode cc pc = .ok (.invokevirtual 161, 3)) (hst : st = av.reverse ++ ra X (iO s i) :: rest) (hcat : (rest.map fun v => v.category).sum ≤ 8) (hdd : d' < d) (kk : G x X σ' L (.int r :: rest) (pc + 3)) : G x X σ L st pc := g_callV h (n := 0) (ci := 1) (gd_V (lw_in 285 (by decide +kernel) rfl) (lw_in 286 (by decide +kernel) rfl) (lw_in 287 (by decide +kernel) rfl) (lw_in 3 (by decide +kernel) rfl) (lw_in 288 (by decide +kernel) rfl)) (by decide +kernel) rfl rfl (iO_lt hs hi) (enc_O X hs hi _ _) (by decide) hn hC hd hst hcat hdd kk
theorem cl5_84 (h : Ok l x X cc RX5 d) {s : Nat} (hs : s < 6) {av rest : List Value} {d' : Nat} {r : Int32} {σ' : fM} (hC : Ct l X yX3_lowestFreeSeat cX3_lowestFreeSeat 3 (some .int) d' (ra X (iS s) :: av) σ (some (.int r)) σ') (hn : av.length = 1) (hd : decode cc pc = .ok (.invokevirtual 84, 3)) (hst : st = av.reverse ++ ra X (iS s) :: rest) (hcat : (rest.map fun v => v.category).sum ≤ 8) (hdd : d' < d) (kk : G x X σ' L (.int r :: rest) (pc + 3)) : G x X σ L st pc := g_callV h (n := 1) (ci := 3) (gd_V (lw_in 290 (by decide +kernel) rfl) (lw_in 291 (by decide +kernel) rfl) (lw_in 292 (by decide +kernel) rfl) (lw_in 2 (by decide +kernel) rfl) (lw_in 293 (by decide +kernel) rfl)) (by decide +kernel) rfl rfl (iS_lt hs) (enc_S X hs _ _) (by decide) hn hC hd hst hcat hdd kk
theorem cl3_71 (h : Ok l x X cc RX3 d) {s : Nat} (hs : s < 6) {av rest : List Value} {d' : Nat} {r : Int32} {σ' : fM} (hC : Ct l X yX3_isTaken cX3_isTaken 4 (some .boolean) d' (ra X (iS s) :: av) σ (some (.int r)) σ') (hn : av.length = 2) (hd : decode cc pc = .ok (.invokevirtual 71, 3)) (hst : st = av.reverse ++ ra X (iS s) :: rest) (hcat : (rest.map fun v => v.category).sum ≤ 8) (hdd : d' < d) (kk : G x X σ' L (.int r :: rest) (pc + 3)) : G x X σ L st pc := g_callV h (n := 2) (ci := 3) (gd_V (lw_in 294 (by decide +kernel) rfl) (lw_in 295 (by decide +kernel) rfl) (lw_in 296 (by decide +kernel) rfl) (lw_in 2 (by decide +kernel) rfl) (lw_in 297 (by decide +kernel) rfl)) (by decide +kernel) rfl rfl (iS_lt hs) (enc_S X hs _ _) (by decide) hn hC hd hst hcat hdd kk
theorem cl5_93 (h : Ok l x X cc RX5 d) {s : Nat} (hs : s < 6) {av rest : List Value} {d' : Nat} {r : Int32} {σ' : fM} (hC : Ct l X yX3_sittersOf cX3_sittersOf 4 (some .int) d' (ra X (iS s) :: av) σ (some (.int r)) σ') (hn : av.length = 1) (hd : decode cc pc = .ok (.invokevirtual 93, 3)) (hst : st = av.reverse ++ ra X (iS s) :: rest) (hcat : (rest.map fun v => v.category).sum ≤ 8) (hdd : d' < d) (kk : G x X σ' L (.int r :: rest) (pc + 3)) : G x X σ L st pc := g_callV h (n := 1) (ci := 3) (gd_V (lw_in 298 (by decide +kernel) rfl) (lw_in 299 (by decide +kernel) rfl) (lw_in 300 (by decide +kernel) rfl) (lw_in 2 (by decide +kernel) rfl) (lw_in 301 (by decide +kernel) rfl)) (by decide +kernel) rfl rfl (iS_lt hs) (enc_S X hs _ _) (by decide) hn hC hd hst hcat hdd kk
theorem clL_27 (h : Ok l x X cc RL d)  {av rest : List Value} {d' : Nat} {r : Int32} {σ' : fM} (hC : Ct l X yX5_stand cX5_stand 4 (some .int) d' (ra X (0) :: av) σ (some (.int r)) σ') (hn : av.length = 1) (hd : decode cc pc = .ok (.invokevirtual 27, 3)) (hst : st = av.reverse ++ ra X (0) :: rest) (hcat : (rest.map fun v => v.category).sum ≤ 8) (hdd : d' < d) (kk : G x X σ' L (.int r :: rest) (pc + 3)) : G x X σ L st pc := g_callV h (n := 1) (ci := 5) (gd_V (lw_in 302 (by decide +kernel) rfl) (lw_in 303 (by decide +kernel) rfl) (lw_in 304 (by decide +kernel) rfl) (lw_in 1 (by decide +kernel) rfl) (lw_in 305 (by decide +kernel) rfl)) (by decide +kernel) rfl rfl (by decide) (enc_0 X _ _) (by decide) hn hC hd hst hcat hdd kk
theorem clL_32 (h : Ok l x X cc RL d)  {av rest : List Value} {d' : Nat} {r : Int32} {σ' : fM} (hC : Ct l X yX5_give cX5_give 4 (some .int) d' (ra X (0) :: av) σ (some (.int r)) σ') (hn : av.length = 2) (hd : decode cc pc = .ok (.invokevirtual 32, 3)) (hst : st = av.reverse ++ ra X (0) :: rest) (hcat : (rest.map fun v => v.category).sum ≤ 8) (hdd : d' < d) (kk : G x X σ' L (.int r :: rest) (pc + 3)) : G x X σ L st pc := g_callV h (n := 2) (ci := 5) (gd_V (lw_in 306 (by decide +kernel) rfl) (lw_in 307 (by decide +kernel) rfl) (lw_in 308 (by decide +kernel) rfl) (lw_in 1 (by decide +kernel) rfl) (lw_in 309 (by decide +kernel) rfl)) (by decide +kernel) rfl rfl (by decide) (enc_0 X _ _) (by decide) hn hC hd hst hcat hdd kk
theorem clL_36 (h : Ok l x X cc RL d)  {av rest : List Value} {d' : Nat} {r : Int32} {σ' : fM} (hC : Ct l X yX5_lend cX5_lend 4 (some .int) d' (ra X (0) :: av) σ (some (.int r)) σ') (hn : av.length = 3) (hd : decode cc pc = .ok (.invokevirtual 36, 3)) (hst : st = av.reverse ++ ra X (0) :: rest) (hcat : (rest.map fun v => v.category).sum ≤ 8) (hdd : d' < d) (kk : G x X σ' L (.int r :: rest) (pc + 3)) : G x X σ L st pc := g_callV h (n := 3) (ci := 5) (gd_V (lw_in 311 (by decide +kernel) rfl) (lw_in 312 (by decide +kernel) rfl) (lw_in 313 (by decide +kernel) rfl) (lw_in 1 (by decide +kernel) rfl) (lw_in 314 (by decide +kernel) rfl)) (by decide +kernel) rfl rfl (by decide) (enc_0 X _ _) (by decide) hn hC hd hst hcat hdd kk
theorem cl5_103 (h : Ok l x X cc RX5 d) {s : Nat} (hs : s < 6) {av rest : List Value} {d' : Nat} {r : Int32} {σ' : fM} (hC : Ct l X yX3_addLoan cX3_addLoan 5 (some .int) d' (ra X (iS s) :: av) σ (some (.int r)) σ') (hn : av.length = 3) (hd : decode cc pc = .ok (.invokevirtual 103, 3)) (hst : st = av.reverse ++ ra X (iS s) :: rest) (hcat : (rest.map fun v => v.category).sum ≤ 8) (hdd : d' < d) (kk : G x X σ' L (.int r :: rest) (pc + 3)) : G x X σ L st pc := g_callV h (n := 3) (ci := 3) (gd_V (lw_in 315 (by decide +kernel) rfl) (lw_in 316 (by decide +kernel) rfl) (lw_in 317 (by decide +kernel) rfl) (lw_in 2 (by decide +kernel) rfl) (lw_in 318 (by decide +kernel) rfl)) (by decide +kernel) rfl rfl (iS_lt hs) (enc_S X hs _ _) (by decide) hn hC hd hst hcat hdd kk
theorem clL_40 (h : Ok l x X cc RL d)  {av rest : List Value} {d' : Nat} {r : Int32} {σ' : fM} (hC : Ct l X yX5_branch cX5_branch 3 (some .int) d' (ra X (0) :: av) σ (some (.int r)) σ') (hn : av.length = 2) (hd : decode cc pc = .ok (.invokevirtual 40, 3)) (hst : st = av.reverse ++ ra X (0) :: rest) (hcat : (rest.map fun v => v.category).sum ≤ 8) (hdd : d' < d) (kk : G x X σ' L (.int r :: rest) (pc + 3)) : G x X σ L st pc := g_callV h (n := 2) (ci := 5) (gd_V (lw_in 319 (by decide +kernel) rfl) (lw_in 320 (by decide +kernel) rfl) (lw_in 321 (by decide +kernel) rfl) (lw_in 1 (by decide +kernel) rfl) (lw_in 322 (by decide +kernel) rfl)) (by decide +kernel) rfl rfl (by decide) (enc_0 X _ _) (by decide) hn hC hd hst hcat hdd kk
theorem cl5_107 (h : Ok l x X cc RX5 d) {av rest : List Value} {d' : Nat} {r : Int32} {σ' : fM} (hC : Ct l X yX5_isAddress cX5_isAddress 1 (some .boolean) d' av σ (some (.int r)) σ') (hn : av.length = 1) (hd : decode cc pc = .ok (.invokestatic 107, 3)) (hst : st = av.reverse ++ rest) (hcat : (rest.map fun v => v.category).sum ≤ 8) (hdd : d' < d) (kk : G x X σ' L (.int r :: rest) (pc + 3)) : G x X σ L st pc := g_callS h (n := 1) (gd_T (lw_in 325 (by decide +kernel) rfl)) (lw_in 323 (by decide +kernel) rfl) (lw_in 324 (by decide +kernel) rfl) (lw_in 1 (by decide +kernel) rfl) (by decide +kernel) (by decide) hn hC hd hst hcat hdd kk
theorem cl5_110 (h : Ok l x X cc RX5 d) {s : Nat} (hs : s < 6) {av rest : List Value} {d' : Nat} {r : Int32} {σ' : fM} (hC : Ct l X yX3_runBranch cX3_runBranch 4 (some .int) d' (ra X (iS s) :: av) σ (some (.int r)) σ') (hn : av.length = 2) (hd : decode cc pc = .ok (.invokevirtual 110, 3)) (hst : st = av.reverse ++ ra X (iS s) :: rest) (hcat : (rest.map fun v => v.category).sum ≤ 8) (hdd : d' < d) (kk : G x X σ' L (.int r :: rest) (pc + 3)) : G x X σ L st pc := g_callV h (n := 2) (ci := 3) (gd_V (lw_in 326 (by decide +kernel) rfl) (lw_in 327 (by decide +kernel) rfl) (lw_in 328 (by decide +kernel) rfl) (lw_in 2 (by decide +kernel) rfl) (lw_in 329 (by decide +kernel) rfl)) (by decide +kernel) rfl rfl (iS_lt hs) (enc_S X hs _ _) (by decide) hn hC hd hst hcat hdd kk
theorem cl3_117 (h : Ok l x X cc RX3 d) {s : Nat} (hs : s < 6) {av rest : List Value} {d' : Nat} {σ' : fM} (hC : Ct l X yX3_foretell cX3_foretell 6 none d' (ra X (iS s) :: av) σ none σ') (hn : av.length = 1) (hd : decode cc pc = .ok (.invokevirtual 117, 3)) (hst : st = av.reverse ++ ra X (iS s) :: rest) (hcat : (rest.map fun v => v.category).sum ≤ 8) (hdd : d' < d) (kk : G x X σ' L (rest) (pc + 3)) : G x X σ L st pc := g_callV h (n := 1) (ci := 3) (gd_V (lw_in 330 (by decide +kernel) rfl) (lw_in 331 (by decide +kernel) rfl) (lw_in 332 (by decide +kernel) rfl) (lw_in 2 (by decide +kernel) rfl) (lw_in 333 (by decide +kernel) rfl)) (by decide +kernel) rfl rfl (iS_lt hs) (enc_S X hs _ _) (by decide) hn hC hd hst hcat hdd kk
theorem cl3_97 (h : Ok l x X cc RX3 d) {s i : Nat} (hs : s < 6) (hi : i < 6) {av rest : List Value} {d' : Nat} {r : Int32} {σ' : fM} (hC : Ct l X yX1_stakeNow cX1_stakeNow 6 (some .int) d' (ra X (iO s i) :: av) σ (some (.int r)) σ') (hn : av.length = 3) (hd : decode cc pc = .ok (.invokevirtual 97, 3)) (hst : st = av.reverse ++ ra X (iO s i) :: rest) (hcat : (rest.map fun v => v.category).sum ≤ 8) (hdd : d' < d) (kk : G x X σ' L (.int r :: rest) (pc + 3)) : G x X σ L st pc := g_callV h (n := 3) (ci := 1) (gd_V (lw_in 334 (by decide +kernel) rfl) (lw_in 335 (by decide +kernel) rfl) (lw_in 336 (by decide +kernel) rfl) (lw_in 3 (by decide +kernel) rfl) (lw_in 337 (by decide +kernel) rfl)) (by decide +kernel) rfl rfl (iO_lt hs hi) (enc_O X hs hi _ _) (by decide) hn hC hd hst hcat hdd kk
theorem cl1_63 (h : Ok l x X cc RX1 d) {s i : Nat} (hs : s < 6) (hi : i < 6) {av rest : List Value} {d' : Nat} {r : Int32} {σ' : fM} (hC : Ct l X yX1_takesPart cX1_takesPart 1 (some .boolean) d' (ra X (iO s i) :: av) σ (some (.int r)) σ') (hn : av.length = 0) (hd : decode cc pc = .ok (.invokevirtual 63, 3)) (hst : st = av.reverse ++ ra X (iO s i) :: rest) (hcat : (rest.map fun v => v.category).sum ≤ 8) (hdd : d' < d) (kk : G x X σ' L (.int r :: rest) (pc + 3)) : G x X σ L st pc := g_callV h (n := 0) (ci := 1) (gd_V (lw_in 338 (by decide +kernel) rfl) (lw_in 339 (by decide +kernel) rfl) (lw_in 340 (by decide +kernel) rfl) (lw_in 3 (by decide +kernel) rfl) (lw_in 341 (by decide +kernel) rfl)) (by decide +kernel) rfl rfl (iO_lt hs hi) (enc_O X hs hi _ _) (by decide) hn hC hd hst hcat hdd kk
theorem cl1_49 (h : Ok l x X cc RX1 d) {s i : Nat} (hs : s < 6) (hi : i < 6) {av rest : List Value} {d' : Nat} {r : Int32} {σ' : fM} (hC : Ct l X yX1_hasSeat cX1_hasSeat 1 (some .boolean) d' (ra X (iO s i) :: av) σ (some (.int r)) σ') (hn : av.length = 0) (hd : decode cc pc = .ok (.invokevirtual 49, 3)) (hst : st = av.reverse ++ ra X (iO s i) :: rest) (hcat : (rest.map fun v => v.category).sum ≤ 8) (hdd : d' < d) (kk : G x X σ' L (.int r :: rest) (pc + 3)) : G x X σ L st pc := g_callV h (n := 0) (ci := 1) (gd_V (lw_in 342 (by decide +kernel) rfl) (lw_in 279 (by decide +kernel) rfl) (lw_in 280 (by decide +kernel) rfl) (lw_in 3 (by decide +kernel) rfl) (lw_in 281 (by decide +kernel) rfl)) (by decide +kernel) rfl rfl (iO_lt hs hi) (enc_O X hs hi _ _) (by decide) hn hC hd hst hcat hdd kk
theorem cl1_53 (h : Ok l x X cc RX1 d) {s i : Nat} (hs : s < 6) (hi : i < 6) {av rest : List Value} {d' : Nat} {r : Int32} {σ' : fM} (hC : Ct l X yX1_isRuined cX1_isRuined 1 (some .boolean) d' (ra X (iO s i) :: av) σ (some (.int r)) σ') (hn : av.length = 0) (hd : decode cc pc = .ok (.invokevirtual 53, 3)) (hst : st = av.reverse ++ ra X (iO s i) :: rest) (hcat : (rest.map fun v => v.category).sum ≤ 8) (hdd : d' < d) (kk : G x X σ' L (.int r :: rest) (pc + 3)) : G x X σ L st pc := g_callV h (n := 0) (ci := 1) (gd_V (lw_in 343 (by decide +kernel) rfl) (lw_in 344 (by decide +kernel) rfl) (lw_in 345 (by decide +kernel) rfl) (lw_in 3 (by decide +kernel) rfl) (lw_in 346 (by decide +kernel) rfl)) (by decide +kernel) rfl rfl (iO_lt hs hi) (enc_O X hs hi _ _) (by decide) hn hC hd hst hcat hdd kk
theorem cl1_56 (h : Ok l x X cc RX1 d) {s i : Nat} (hs : s < 6) (hi : i < 6) {av rest : List Value} {d' : Nat} {r : Int32} {σ' : fM} (hC : Ct l X yX1_hasTable cX1_hasTable 1 (some .boolean) d' (ra X (iO s i) :: av) σ (some (.int r)) σ') (hn : av.length = 0) (hd : decode cc pc = .ok (.invokevirtual 56, 3)) (hst : st = av.reverse ++ ra X (iO s i) :: rest) (hcat : (rest.map fun v => v.category).sum ≤ 8) (hdd : d' < d) (kk : G x X σ' L (.int r :: rest) (pc + 3)) : G x X σ L st pc := g_callV h (n := 0) (ci := 1) (gd_V (lw_in 347 (by decide +kernel) rfl) (lw_in 286 (by decide +kernel) rfl) (lw_in 287 (by decide +kernel) rfl) (lw_in 3 (by decide +kernel) rfl) (lw_in 288 (by decide +kernel) rfl)) (by decide +kernel) rfl rfl (iO_lt hs hi) (enc_O X hs hi _ _) (by decide) hn hC hd hst hcat hdd kk
theorem cl1_59 (h : Ok l x X cc RX1 d) {s i : Nat} (hs : s < 6) (hi : i < 6) {av rest : List Value} {d' : Nat} {r : Int32} {σ' : fM} (hC : Ct l X yX1_slotOf cX1_slotOf 4 (some .int) d' (ra X (iO s i) :: av) σ (some (.int r)) σ') (hn : av.length = 2) (hd : decode cc pc = .ok (.invokevirtual 59, 3)) (hst : st = av.reverse ++ ra X (iO s i) :: rest) (hcat : (rest.map fun v => v.category).sum ≤ 8) (hdd : d' < d) (kk : G x X σ' L (.int r :: rest) (pc + 3)) : G x X σ L st pc := g_callV h (n := 2) (ci := 1) (gd_V (lw_in 348 (by decide +kernel) rfl) (lw_in 349 (by decide +kernel) rfl) (lw_in 350 (by decide +kernel) rfl) (lw_in 3 (by decide +kernel) rfl) (lw_in 351 (by decide +kernel) rfl)) (by decide +kernel) rfl rfl (iO_lt hs hi) (enc_O X hs hi _ _) (by decide) hn hC hd hst hcat hdd kk
theorem cl3_107 (h : Ok l x X cc RX3 d) {s i : Nat} (hs : s < 6) (hi : i < 6) {av rest : List Value} {d' : Nat} {r : Int32} {σ' : fM} (hC : Ct l X yX1_wordOfItsOwn cX1_wordOfItsOwn 3 (some .int) d' (ra X (iO s i) :: av) σ (some (.int r)) σ') (hn : av.length = 2) (hd : decode cc pc = .ok (.invokevirtual 107, 3)) (hst : st = av.reverse ++ ra X (iO s i) :: rest) (hcat : (rest.map fun v => v.category).sum ≤ 8) (hdd : d' < d) (kk : G x X σ' L (.int r :: rest) (pc + 3)) : G x X σ L st pc := g_callV h (n := 2) (ci := 1) (gd_V (lw_in 355 (by decide +kernel) rfl) (lw_in 356 (by decide +kernel) rfl) (lw_in 357 (by decide +kernel) rfl) (lw_in 3 (by decide +kernel) rfl) (lw_in 358 (by decide +kernel) rfl)) (by decide +kernel) rfl rfl (iO_lt hs hi) (enc_O X hs hi _ _) (by decide) hn hC hd hst hcat hdd kk
theorem cl3_114 (h : Ok l x X cc RX3 d) {s i : Nat} (hs : s < 6) (hi : i < 6) {av rest : List Value} {d' : Nat} {r : Int32} {σ' : fM} (hC : Ct l X yX1_takesPart cX1_takesPart 1 (some .boolean) d' (ra X (iO s i) :: av) σ (some (.int r)) σ') (hn : av.length = 0) (hd : decode cc pc = .ok (.invokevirtual 114, 3)) (hst : st = av.reverse ++ ra X (iO s i) :: rest) (hcat : (rest.map fun v => v.category).sum ≤ 8) (hdd : d' < d) (kk : G x X σ' L (.int r :: rest) (pc + 3)) : G x X σ L st pc := g_callV h (n := 0) (ci := 1) (gd_V (lw_in 359 (by decide +kernel) rfl) (lw_in 339 (by decide +kernel) rfl) (lw_in 340 (by decide +kernel) rfl) (lw_in 3 (by decide +kernel) rfl) (lw_in 341 (by decide +kernel) rfl)) (by decide +kernel) rfl rfl (iO_lt hs hi) (enc_O X hs hi _ _) (by decide) hn hC hd hst hcat hdd kk
theorem cl3_121 (h : Ok l x X cc RX3 d) {s : Nat} (hs : s < 6) {av rest : List Value} {d' : Nat} {r : Int32} {σ' : fM} (hC : Ct l X yX3_settleBets cX3_settleBets 9 (some .int) d' (ra X (iS s) :: av) σ (some (.int r)) σ') (hn : av.length = 1) (hd : decode cc pc = .ok (.invokevirtual 121, 3)) (hst : st = av.reverse ++ ra X (iS s) :: rest) (hcat : (rest.map fun v => v.category).sum ≤ 8) (hdd : d' < d) (kk : G x X σ' L (.int r :: rest) (pc + 3)) : G x X σ L st pc := g_callV h (n := 1) (ci := 3) (gd_V (lw_in 360 (by decide +kernel) rfl) (lw_in 361 (by decide +kernel) rfl) (lw_in 362 (by decide +kernel) rfl) (lw_in 2 (by decide +kernel) rfl) (lw_in 363 (by decide +kernel) rfl)) (by decide +kernel) rfl rfl (iS_lt hs) (enc_S X hs _ _) (by decide) hn hC hd hst hcat hdd kk
theorem cl3_132 (h : Ok l x X cc RX3 d) {s : Nat} (hs : s < 6) {av rest : List Value} {d' : Nat} {r : Int32} {σ' : fM} (hC : Ct l X yX3_stakesOn cX3_stakesOn 4 (some .int) d' (ra X (iS s) :: av) σ (some (.int r)) σ') (hn : av.length = 1) (hd : decode cc pc = .ok (.invokevirtual 132, 3)) (hst : st = av.reverse ++ ra X (iS s) :: rest) (hcat : (rest.map fun v => v.category).sum ≤ 8) (hdd : d' < d) (kk : G x X σ' L (.int r :: rest) (pc + 3)) : G x X σ L st pc := g_callV h (n := 1) (ci := 3) (gd_V (lw_in 364 (by decide +kernel) rfl) (lw_in 365 (by decide +kernel) rfl) (lw_in 366 (by decide +kernel) rfl) (lw_in 2 (by decide +kernel) rfl) (lw_in 367 (by decide +kernel) rfl)) (by decide +kernel) rfl rfl (iS_lt hs) (enc_S X hs _ _) (by decide) hn hC hd hst hcat hdd kk
theorem cl3_135 (h : Ok l x X cc RX3 d) {s : Nat} (hs : s < 6) {av rest : List Value} {d' : Nat} {σ' : fM} (hC : Ct l X yX3_payCreditors cX3_payCreditors 7 none d' (ra X (iS s) :: av) σ none σ') (hn : av.length = 2) (hd : decode cc pc = .ok (.invokevirtual 135, 3)) (hst : st = av.reverse ++ ra X (iS s) :: rest) (hcat : (rest.map fun v => v.category).sum ≤ 8) (hdd : d' < d) (kk : G x X σ' L (rest) (pc + 3)) : G x X σ L st pc := g_callV h (n := 2) (ci := 3) (gd_V (lw_in 368 (by decide +kernel) rfl) (lw_in 369 (by decide +kernel) rfl) (lw_in 370 (by decide +kernel) rfl) (lw_in 2 (by decide +kernel) rfl) (lw_in 371 (by decide +kernel) rfl)) (by decide +kernel) rfl rfl (iS_lt hs) (enc_S X hs _ _) (by decide) hn hC hd hst hcat hdd kk
theorem cl3_138 (h : Ok l x X cc RX3 d) {s : Nat} (hs : s < 6) {av rest : List Value} {d' : Nat} {σ' : fM} (hC : Ct l X yX3_dropLoansPaidBack cX3_dropLoansPaidBack 3 none d' (ra X (iS s) :: av) σ none σ') (hn : av.length = 0) (hd : decode cc pc = .ok (.invokevirtual 138, 3)) (hst : st = av.reverse ++ ra X (iS s) :: rest) (hcat : (rest.map fun v => v.category).sum ≤ 8) (hdd : d' < d) (kk : G x X σ' L (rest) (pc + 3)) : G x X σ L st pc := g_callV h (n := 0) (ci := 3) (gd_V (lw_in 373 (by decide +kernel) rfl) (lw_in 374 (by decide +kernel) rfl) (lw_in 375 (by decide +kernel) rfl) (lw_in 2 (by decide +kernel) rfl) (lw_in 376 (by decide +kernel) rfl)) (by decide +kernel) rfl rfl (iS_lt hs) (enc_S X hs _ _) (by decide) hn hC hd hst hcat hdd kk
theorem cl3_125 (h : Ok l x X cc RX3 d) {s : Nat} (hs : s < 6) {av rest : List Value} {d' : Nat} {σ' : fM} (hC : Ct l X yX3_keepRecords cX3_keepRecords 3 none d' (ra X (iS s) :: av) σ none σ') (hn : av.length = 1) (hd : decode cc pc = .ok (.invokevirtual 125, 3)) (hst : st = av.reverse ++ ra X (iS s) :: rest) (hcat : (rest.map fun v => v.category).sum ≤ 8) (hdd : d' < d) (kk : G x X σ' L (rest) (pc + 3)) : G x X σ L st pc := g_callV h (n := 1) (ci := 3) (gd_V (lw_in 377 (by decide +kernel) rfl) (lw_in 378 (by decide +kernel) rfl) (lw_in 379 (by decide +kernel) rfl) (lw_in 2 (by decide +kernel) rfl) (lw_in 380 (by decide +kernel) rfl)) (by decide +kernel) rfl rfl (iS_lt hs) (enc_S X hs _ _) (by decide) hn hC hd hst hcat hdd kk
theorem cl3_146 (h : Ok l x X cc RX3 d) {s i : Nat} (hs : s < 6) (hi : i < 6) {av rest : List Value} {d' : Nat} {σ' : fM} (hC : Ct l X yX1_note cX1_note 2 none d' (ra X (iO s i) :: av) σ none σ') (hn : av.length = 1) (hd : decode cc pc = .ok (.invokevirtual 146, 3)) (hst : st = av.reverse ++ ra X (iO s i) :: rest) (hcat : (rest.map fun v => v.category).sum ≤ 8) (hdd : d' < d) (kk : G x X σ' L (rest) (pc + 3)) : G x X σ L st pc := g_callV h (n := 1) (ci := 1) (gd_V (lw_in 381 (by decide +kernel) rfl) (lw_in 382 (by decide +kernel) rfl) (lw_in 383 (by decide +kernel) rfl) (lw_in 3 (by decide +kernel) rfl) (lw_in 384 (by decide +kernel) rfl)) (by decide +kernel) rfl rfl (iO_lt hs hi) (enc_O X hs hi _ _) (by decide) hn hC hd hst hcat hdd kk
theorem cl3_128 (h : Ok l x X cc RX3 d) {s : Nat} (hs : s < 6) {av rest : List Value} {d' : Nat} {σ' : fM} (hC : Ct l X yX3_learnFrom cX3_learnFrom 4 none d' (ra X (iS s) :: av) σ none σ') (hn : av.length = 2) (hd : decode cc pc = .ok (.invokevirtual 128, 3)) (hst : st = av.reverse ++ ra X (iS s) :: rest) (hcat : (rest.map fun v => v.category).sum ≤ 8) (hdd : d' < d) (kk : G x X σ' L (rest) (pc + 3)) : G x X σ L st pc := g_callV h (n := 2) (ci := 3) (gd_V (lw_in 386 (by decide +kernel) rfl) (lw_in 387 (by decide +kernel) rfl) (lw_in 388 (by decide +kernel) rfl) (lw_in 2 (by decide +kernel) rfl) (lw_in 389 (by decide +kernel) rfl)) (by decide +kernel) rfl rfl (iS_lt hs) (enc_S X hs _ _) (by decide) hn hC hd hst hcat hdd kk
theorem cl3_150 (h : Ok l x X cc RX3 d) {s i : Nat} (hs : s < 6) (hi : i < 6) {av rest : List Value} {d' : Nat} {r : Int32} {σ' : fM} (hC : Ct l X yX1_hasTable cX1_hasTable 1 (some .boolean) d' (ra X (iO s i) :: av) σ (some (.int r)) σ') (hn : av.length = 0) (hd : decode cc pc = .ok (.invokevirtual 150, 3)) (hst : st = av.reverse ++ ra X (iO s i) :: rest) (hcat : (rest.map fun v => v.category).sum ≤ 8) (hdd : d' < d) (kk : G x X σ' L (.int r :: rest) (pc + 3)) : G x X σ L st pc := g_callV h (n := 0) (ci := 1) (gd_V (lw_in 390 (by decide +kernel) rfl) (lw_in 286 (by decide +kernel) rfl) (lw_in 287 (by decide +kernel) rfl) (lw_in 3 (by decide +kernel) rfl) (lw_in 288 (by decide +kernel) rfl)) (by decide +kernel) rfl rfl (iO_lt hs hi) (enc_O X hs hi _ _) (by decide) hn hC hd hst hcat hdd kk
theorem cl3_153 (h : Ok l x X cc RX3 d) {s i : Nat} (hs : s < 6) (hi : i < 6) {av rest : List Value} {d' : Nat} {σ' : fM} (hC : Ct l X yX1_learn cX1_learn 5 none d' (ra X (iO s i) :: av) σ none σ') (hn : av.length = 3) (hd : decode cc pc = .ok (.invokevirtual 153, 3)) (hst : st = av.reverse ++ ra X (iO s i) :: rest) (hcat : (rest.map fun v => v.category).sum ≤ 8) (hdd : d' < d) (kk : G x X σ' L (rest) (pc + 3)) : G x X σ L st pc := g_callV h (n := 3) (ci := 1) (gd_V (lw_in 391 (by decide +kernel) rfl) (lw_in 392 (by decide +kernel) rfl) (lw_in 393 (by decide +kernel) rfl) (lw_in 3 (by decide +kernel) rfl) (lw_in 394 (by decide +kernel) rfl)) (by decide +kernel) rfl rfl (iO_lt hs hi) (enc_O X hs hi _ _) (by decide) hn hC hd hst hcat hdd kk
theorem clL_44 (h : Ok l x X cc RL d)  {av rest : List Value} {d' : Nat} {r : Int32} {σ' : fM} (hC : Ct l X yX5_oracleOf cX5_oracleOf 4 (some .int) d' (ra X (0) :: av) σ (some (.int r)) σ') (hn : av.length = 2) (hd : decode cc pc = .ok (.invokevirtual 44, 3)) (hst : st = av.reverse ++ ra X (0) :: rest) (hcat : (rest.map fun v => v.category).sum ≤ 8) (hdd : d' < d) (kk : G x X σ' L (.int r :: rest) (pc + 3)) : G x X σ L st pc := g_callV h (n := 2) (ci := 5) (gd_V (lw_in 398 (by decide +kernel) rfl) (lw_in 399 (by decide +kernel) rfl) (lw_in 400 (by decide +kernel) rfl) (lw_in 1 (by decide +kernel) rfl) (lw_in 401 (by decide +kernel) rfl)) (by decide +kernel) rfl rfl (by decide) (enc_0 X _ _) (by decide) hn hC hd hst hcat hdd kk
theorem cl5_133 (h : Ok l x X cc RX5 d) {s : Nat} (hs : s < 6) {av rest : List Value} {d' : Nat} {r : Int32} {σ' : fM} (hC : Ct l X yX3_debtsOf cX3_debtsOf 4 (some .int) d' (ra X (iS s) :: av) σ (some (.int r)) σ') (hn : av.length = 1) (hd : decode cc pc = .ok (.invokevirtual 133, 3)) (hst : st = av.reverse ++ ra X (iS s) :: rest) (hcat : (rest.map fun v => v.category).sum ≤ 8) (hdd : d' < d) (kk : G x X σ' L (.int r :: rest) (pc + 3)) : G x X σ L st pc := g_callV h (n := 1) (ci := 3) (gd_V (lw_in 403 (by decide +kernel) rfl) (lw_in 404 (by decide +kernel) rfl) (lw_in 405 (by decide +kernel) rfl) (lw_in 2 (by decide +kernel) rfl) (lw_in 406 (by decide +kernel) rfl)) (by decide +kernel) rfl rfl (iS_lt hs) (enc_S X hs _ _) (by decide) hn hC hd hst hcat hdd kk
theorem cl5_136 (h : Ok l x X cc RX5 d) {s : Nat} (hs : s < 6) {av rest : List Value} {d' : Nat} {r : Int32} {σ' : fM} (hC : Ct l X yX3_claimsOf cX3_claimsOf 4 (some .int) d' (ra X (iS s) :: av) σ (some (.int r)) σ') (hn : av.length = 1) (hd : decode cc pc = .ok (.invokevirtual 136, 3)) (hst : st = av.reverse ++ ra X (iS s) :: rest) (hcat : (rest.map fun v => v.category).sum ≤ 8) (hdd : d' < d) (kk : G x X σ' L (.int r :: rest) (pc + 3)) : G x X σ L st pc := g_callV h (n := 1) (ci := 3) (gd_V (lw_in 407 (by decide +kernel) rfl) (lw_in 408 (by decide +kernel) rfl) (lw_in 409 (by decide +kernel) rfl) (lw_in 2 (by decide +kernel) rfl) (lw_in 410 (by decide +kernel) rfl)) (by decide +kernel) rfl rfl (iS_lt hs) (enc_S X hs _ _) (by decide) hn hC hd hst hcat hdd kk
theorem clL_48 (h : Ok l x X cc RL d)  {av rest : List Value} {d' : Nat} {r : Int32} {σ' : fM} (hC : Ct l X yX5_counter cX5_counter 4 (some .int) d' (ra X (0) :: av) σ (some (.int r)) σ') (hn : av.length = 2) (hd : decode cc pc = .ok (.invokevirtual 48, 3)) (hst : st = av.reverse ++ ra X (0) :: rest) (hcat : (rest.map fun v => v.category).sum ≤ 8) (hdd : d' < d) (kk : G x X σ' L (.int r :: rest) (pc + 3)) : G x X σ L st pc := g_callV h (n := 2) (ci := 5) (gd_V (lw_in 411 (by decide +kernel) rfl) (lw_in 412 (by decide +kernel) rfl) (lw_in 413 (by decide +kernel) rfl) (lw_in 1 (by decide +kernel) rfl) (lw_in 414 (by decide +kernel) rfl)) (by decide +kernel) rfl rfl (by decide) (enc_0 X _ _) (by decide) hn hC hd hst hcat hdd kk
theorem cl5_139 (h : Ok l x X cc RX5 d) {s i : Nat} (hs : s < 6) (hi : i < 6) {av rest : List Value} {d' : Nat} {r : Int32} {σ' : fM} (hC : Ct l X yX1_tableSize cX1_tableSize 1 (some .int) d' (ra X (iO s i) :: av) σ (some (.int r)) σ') (hn : av.length = 0) (hd : decode cc pc = .ok (.invokevirtual 139, 3)) (hst : st = av.reverse ++ ra X (iO s i) :: rest) (hcat : (rest.map fun v => v.category).sum ≤ 8) (hdd : d' < d) (kk : G x X σ' L (.int r :: rest) (pc + 3)) : G x X σ L st pc := g_callV h (n := 0) (ci := 1) (gd_V (lw_in 415 (by decide +kernel) rfl) (lw_in 416 (by decide +kernel) rfl) (lw_in 417 (by decide +kernel) rfl) (lw_in 3 (by decide +kernel) rfl) (lw_in 418 (by decide +kernel) rfl)) (by decide +kernel) rfl rfl (iO_lt hs hi) (enc_O X hs hi _ _) (by decide) hn hC hd hst hcat hdd kk
theorem clL_52 (h : Ok l x X cc RL d)  {av rest : List Value} {d' : Nat} {r : Int32} {σ' : fM} (hC : Ct l X yX5_loanOf cX5_loanOf 4 (some .int) d' (ra X (0) :: av) σ (some (.int r)) σ') (hn : av.length = 2) (hd : decode cc pc = .ok (.invokevirtual 52, 3)) (hst : st = av.reverse ++ ra X (0) :: rest) (hcat : (rest.map fun v => v.category).sum ≤ 8) (hdd : d' < d) (kk : G x X σ' L (.int r :: rest) (pc + 3)) : G x X σ L st pc := g_callV h (n := 2) (ci := 5) (gd_V (lw_in 419 (by decide +kernel) rfl) (lw_in 420 (by decide +kernel) rfl) (lw_in 421 (by decide +kernel) rfl) (lw_in 1 (by decide +kernel) rfl) (lw_in 422 (by decide +kernel) rfl)) (by decide +kernel) rfl rfl (by decide) (enc_0 X _ _) (by decide) hn hC hd hst hcat hdd kk
theorem clL_56 (h : Ok l x X cc RL d)  {av rest : List Value} {d' : Nat} {r : Int32} {σ' : fM} (hC : Ct l X yX5_aliases cX5_aliases 7 (some .int) d' (ra X (0) :: av) σ (some (.int r)) σ') (hn : av.length = 2) (hd : decode cc pc = .ok (.invokevirtual 56, 3)) (hst : st = av.reverse ++ ra X (0) :: rest) (hcat : (rest.map fun v => v.category).sum ≤ 8) (hdd : d' < d) (kk : G x X σ' L (.int r :: rest) (pc + 3)) : G x X σ L st pc := g_callV h (n := 2) (ci := 5) (gd_V (lw_in 423 (by decide +kernel) rfl) (lw_in 424 (by decide +kernel) rfl) (lw_in 425 (by decide +kernel) rfl) (lw_in 1 (by decide +kernel) rfl) (lw_in 426 (by decide +kernel) rfl)) (by decide +kernel) rfl rfl (by decide) (enc_0 X _ _) (by decide) hn hC hd hst hcat hdd kk
theorem cl5_167 (h : Ok l x X cc RX5 d) {s i : Nat} (hs : s < 6) (hi : i < 6) {av rest : List Value} {d' : Nat} {r : Int32} {σ' : fM} (hC : Ct l X yX1_slotOf cX1_slotOf 4 (some .int) d' (ra X (iO s i) :: av) σ (some (.int r)) σ') (hn : av.length = 2) (hd : decode cc pc = .ok (.invokevirtual 167, 3)) (hst : st = av.reverse ++ ra X (iO s i) :: rest) (hcat : (rest.map fun v => v.category).sum ≤ 8) (hdd : d' < d) (kk : G x X σ' L (.int r :: rest) (pc + 3)) : G x X σ L st pc := g_callV h (n := 2) (ci := 1) (gd_V (lw_in 427 (by decide +kernel) rfl) (lw_in 349 (by decide +kernel) rfl) (lw_in 350 (by decide +kernel) rfl) (lw_in 3 (by decide +kernel) rfl) (lw_in 351 (by decide +kernel) rfl)) (by decide +kernel) rfl rfl (iO_lt hs hi) (enc_O X hs hi _ _) (by decide) hn hC hd hst hcat hdd kk
theorem cl5_170 (h : Ok l x X cc RX5 d) {s : Nat} (hs : s < 6) {av rest : List Value} {d' : Nat} {r : Int32} {σ' : fM} (hC : Ct l X yX3_hasSeen cX3_hasSeen 2 (some .boolean) d' (ra X (iS s) :: av) σ (some (.int r)) σ') (hn : av.length = 1) (hd : decode cc pc = .ok (.invokevirtual 170, 3)) (hst : st = av.reverse ++ ra X (iS s) :: rest) (hcat : (rest.map fun v => v.category).sum ≤ 8) (hdd : d' < d) (kk : G x X σ' L (.int r :: rest) (pc + 3)) : G x X σ L st pc := g_callV h (n := 1) (ci := 3) (gd_V (lw_in 428 (by decide +kernel) rfl) (lw_in 429 (by decide +kernel) rfl) (lw_in 430 (by decide +kernel) rfl) (lw_in 2 (by decide +kernel) rfl) (lw_in 431 (by decide +kernel) rfl)) (by decide +kernel) rfl rfl (iS_lt hs) (enc_S X hs _ _) (by decide) hn hC hd hst hcat hdd kk
theorem clL_60 (h : Ok l x X cc RL d)  {av rest : List Value} {d' : Nat} {r : Int32} {σ' : fM} (hC : Ct l X yX5_share cX5_share 4 (some .int) d' (ra X (0) :: av) σ (some (.int r)) σ') (hn : av.length = 1) (hd : decode cc pc = .ok (.invokevirtual 60, 3)) (hst : st = av.reverse ++ ra X (0) :: rest) (hcat : (rest.map fun v => v.category).sum ≤ 8) (hdd : d' < d) (kk : G x X σ' L (.int r :: rest) (pc + 3)) : G x X σ L st pc := g_callV h (n := 1) (ci := 5) (gd_V (lw_in 432 (by decide +kernel) rfl) (lw_in 433 (by decide +kernel) rfl) (lw_in 434 (by decide +kernel) rfl) (lw_in 1 (by decide +kernel) rfl) (lw_in 435 (by decide +kernel) rfl)) (by decide +kernel) rfl rfl (by decide) (enc_0 X _ _) (by decide) hn hC hd hst hcat hdd kk
theorem cl5_173 (h : Ok l x X cc RX5 d) {av rest : List Value} {d' : Nat} {r : Int32} {σ' : fM} (hC : Ct l X yX5_bitsOfQuotient cX5_bitsOfQuotient 5 (some .int) d' av σ (some (.int r)) σ') (hn : av.length = 2) (hd : decode cc pc = .ok (.invokestatic 173, 3)) (hst : st = av.reverse ++ rest) (hcat : (rest.map fun v => v.category).sum ≤ 8) (hdd : d' < d) (kk : G x X σ' L (.int r :: rest) (pc + 3)) : G x X σ L st pc := g_callS h (n := 2) (gd_T (lw_in 438 (by decide +kernel) rfl)) (lw_in 436 (by decide +kernel) rfl) (lw_in 437 (by decide +kernel) rfl) (lw_in 1 (by decide +kernel) rfl) (by decide +kernel) (by decide) hn hC hd hst hcat hdd kk
theorem clL_64 (h : Ok l x X cc RL d)  {av rest : List Value} {d' : Nat} {r : Int32} {σ' : fM} (hC : Ct l X yX5_rich cX5_rich 3 (some .int) d' (ra X (0) :: av) σ (some (.int r)) σ') (hn : av.length = 1) (hd : decode cc pc = .ok (.invokevirtual 64, 3)) (hst : st = av.reverse ++ ra X (0) :: rest) (hcat : (rest.map fun v => v.category).sum ≤ 8) (hdd : d' < d) (kk : G x X σ' L (.int r :: rest) (pc + 3)) : G x X σ L st pc := g_callV h (n := 1) (ci := 5) (gd_V (lw_in 441 (by decide +kernel) rfl) (lw_in 442 (by decide +kernel) rfl) (lw_in 443 (by decide +kernel) rfl) (lw_in 1 (by decide +kernel) rfl) (lw_in 444 (by decide +kernel) rfl)) (by decide +kernel) rfl rfl (by decide) (enc_0 X _ _) (by decide) hn hC hd hst hcat hdd kk
theorem cl5_176 (h : Ok l x X cc RX5 d) {s : Nat} (hs : s < 6) {av rest : List Value} {d' : Nat} {r : Int32} {σ' : fM} (hC : Ct l X yX3_richerThan cX3_richerThan 5 (some .int) d' (ra X (iS s) :: av) σ (some (.int r)) σ') (hn : av.length = 1) (hd : decode cc pc = .ok (.invokevirtual 176, 3)) (hst : st = av.reverse ++ ra X (iS s) :: rest) (hcat : (rest.map fun v => v.category).sum ≤ 8) (hdd : d' < d) (kk : G x X σ' L (.int r :: rest) (pc + 3)) : G x X σ L st pc := g_callV h (n := 1) (ci := 3) (gd_V (lw_in 445 (by decide +kernel) rfl) (lw_in 446 (by decide +kernel) rfl) (lw_in 447 (by decide +kernel) rfl) (lw_in 2 (by decide +kernel) rfl) (lw_in 448 (by decide +kernel) rfl)) (by decide +kernel) rfl rfl (iS_lt hs) (enc_S X hs _ _) (by decide) hn hC hd hst hcat hdd kk
theorem clL_68 (h : Ok l x X cc RL d)  {av rest : List Value} {d' : Nat} {r : Int32} {σ' : fM} (hC : Ct l X yX5_says cX5_says 3 (some .int) d' (ra X (0) :: av) σ (some (.int r)) σ') (hn : av.length = 2) (hd : decode cc pc = .ok (.invokevirtual 68, 3)) (hst : st = av.reverse ++ ra X (0) :: rest) (hcat : (rest.map fun v => v.category).sum ≤ 8) (hdd : d' < d) (kk : G x X σ' L (.int r :: rest) (pc + 3)) : G x X σ L st pc := g_callV h (n := 2) (ci := 5) (gd_V (lw_in 449 (by decide +kernel) rfl) (lw_in 450 (by decide +kernel) rfl) (lw_in 451 (by decide +kernel) rfl) (lw_in 1 (by decide +kernel) rfl) (lw_in 452 (by decide +kernel) rfl)) (by decide +kernel) rfl rfl (by decide) (enc_0 X _ _) (by decide) hn hC hd hst hcat hdd kk
theorem cl5_179 (h : Ok l x X cc RX5 d) {s : Nat} (hs : s < 6) {av rest : List Value} {d' : Nat} {σ' : fM} (hC : Ct l X yX3_foretell cX3_foretell 6 none d' (ra X (iS s) :: av) σ none σ') (hn : av.length = 1) (hd : decode cc pc = .ok (.invokevirtual 179, 3)) (hst : st = av.reverse ++ ra X (iS s) :: rest) (hcat : (rest.map fun v => v.category).sum ≤ 8) (hdd : d' < d) (kk : G x X σ' L (rest) (pc + 3)) : G x X σ L st pc := g_callV h (n := 1) (ci := 3) (gd_V (lw_in 453 (by decide +kernel) rfl) (lw_in 331 (by decide +kernel) rfl) (lw_in 332 (by decide +kernel) rfl) (lw_in 2 (by decide +kernel) rfl) (lw_in 333 (by decide +kernel) rfl)) (by decide +kernel) rfl rfl (iS_lt hs) (enc_S X hs _ _) (by decide) hn hC hd hst hcat hdd kk
theorem clL_72 (h : Ok l x X cc RL d)  {av rest : List Value} {d' : Nat} {r : Int32} {σ' : fM} (hC : Ct l X yX5_stake cX5_stake 3 (some .int) d' (ra X (0) :: av) σ (some (.int r)) σ') (hn : av.length = 2) (hd : decode cc pc = .ok (.invokevirtual 72, 3)) (hst : st = av.reverse ++ ra X (0) :: rest) (hcat : (rest.map fun v => v.category).sum ≤ 8) (hdd : d' < d) (kk : G x X σ' L (.int r :: rest) (pc + 3)) : G x X σ L st pc := g_callV h (n := 2) (ci := 5) (gd_V (lw_in 454 (by decide +kernel) rfl) (lw_in 455 (by decide +kernel) rfl) (lw_in 456 (by decide +kernel) rfl) (lw_in 1 (by decide +kernel) rfl) (lw_in 457 (by decide +kernel) rfl)) (by decide +kernel) rfl rfl (by decide) (enc_0 X _ _) (by decide) hn hC hd hst hcat hdd kk
theorem clL_76 (h : Ok l x X cc RL d)  {av rest : List Value} {d' : Nat} {r : Int32} {σ' : fM} (hC : Ct l X yX5_odds cX5_odds 4 (some .int) d' (ra X (0) :: av) σ (some (.int r)) σ') (hn : av.length = 1) (hd : decode cc pc = .ok (.invokevirtual 76, 3)) (hst : st = av.reverse ++ ra X (0) :: rest) (hcat : (rest.map fun v => v.category).sum ≤ 8) (hdd : d' < d) (kk : G x X σ' L (.int r :: rest) (pc + 3)) : G x X σ L st pc := g_callV h (n := 1) (ci := 5) (gd_V (lw_in 458 (by decide +kernel) rfl) (lw_in 459 (by decide +kernel) rfl) (lw_in 460 (by decide +kernel) rfl) (lw_in 1 (by decide +kernel) rfl) (lw_in 461 (by decide +kernel) rfl)) (by decide +kernel) rfl rfl (by decide) (enc_0 X _ _) (by decide) hn hC hd hst hcat hdd kk
theorem cl5_189 (h : Ok l x X cc RX5 d) {s : Nat} (hs : s < 6) {av rest : List Value} {d' : Nat} {r : Int32} {σ' : fM} (hC : Ct l X yX3_stakesOn cX3_stakesOn 4 (some .int) d' (ra X (iS s) :: av) σ (some (.int r)) σ') (hn : av.length = 1) (hd : decode cc pc = .ok (.invokevirtual 189, 3)) (hst : st = av.reverse ++ ra X (iS s) :: rest) (hcat : (rest.map fun v => v.category).sum ≤ 8) (hdd : d' < d) (kk : G x X σ' L (.int r :: rest) (pc + 3)) : G x X σ L st pc := g_callV h (n := 1) (ci := 3) (gd_V (lw_in 462 (by decide +kernel) rfl) (lw_in 365 (by decide +kernel) rfl) (lw_in 366 (by decide +kernel) rfl) (lw_in 2 (by decide +kernel) rfl) (lw_in 367 (by decide +kernel) rfl)) (by decide +kernel) rfl rfl (iS_lt hs) (enc_S X hs _ _) (by decide) hn hC hd hst hcat hdd kk
theorem clL_80 (h : Ok l x X cc RL d)  {av rest : List Value} {d' : Nat} {r : Int32} {σ' : fM} (hC : Ct l X yX5_gain cX5_gain 4 (some .int) d' (ra X (0) :: av) σ (some (.int r)) σ') (hn : av.length = 3) (hd : decode cc pc = .ok (.invokevirtual 80, 3)) (hst : st = av.reverse ++ ra X (0) :: rest) (hcat : (rest.map fun v => v.category).sum ≤ 8) (hdd : d' < d) (kk : G x X σ' L (.int r :: rest) (pc + 3)) : G x X σ L st pc := g_callV h (n := 3) (ci := 5) (gd_V (lw_in 463 (by decide +kernel) rfl) (lw_in 464 (by decide +kernel) rfl) (lw_in 465 (by decide +kernel) rfl) (lw_in 1 (by decide +kernel) rfl) (lw_in 466 (by decide +kernel) rfl)) (by decide +kernel) rfl rfl (by decide) (enc_0 X _ _) (by decide) hn hC hd hst hcat hdd kk
theorem cl5_192 (h : Ok l x X cc RX5 d) {s : Nat} (hs : s < 6) {av rest : List Value} {d' : Nat} {σ' : fM} (hC : Ct l X yX3_copyFrom cX3_copyFrom 3 none d' (ra X (iS s) :: av) σ none σ') (hn : av.length = 1) (hd : decode cc pc = .ok (.invokevirtual 192, 3)) (hst : st = av.reverse ++ ra X (iS s) :: rest) (hcat : (rest.map fun v => v.category).sum ≤ 8) (hdd : d' < d) (kk : G x X σ' L (rest) (pc + 3)) : G x X σ L st pc := g_callV h (n := 1) (ci := 3) (gd_V (lw_in 467 (by decide +kernel) rfl) (lw_in 243 (by decide +kernel) rfl) (lw_in 244 (by decide +kernel) rfl) (lw_in 2 (by decide +kernel) rfl) (lw_in 245 (by decide +kernel) rfl)) (by decide +kernel) rfl rfl (iS_lt hs) (enc_S X hs _ _) (by decide) hn hC hd hst hcat hdd kk
theorem clL_84 (h : Ok l x X cc RL d)  {av rest : List Value} {d' : Nat} {r : Int32} {σ' : fM} (hC : Ct l X yX5_doom cX5_doom 6 (some .int) d' (ra X (0) :: av) σ (some (.int r)) σ') (hn : av.length = 3) (hd : decode cc pc = .ok (.invokevirtual 84, 3)) (hst : st = av.reverse ++ ra X (0) :: rest) (hcat : (rest.map fun v => v.category).sum ≤ 8) (hdd : d' < d) (kk : G x X σ' L (.int r :: rest) (pc + 3)) : G x X σ L st pc := g_callV h (n := 3) (ci := 5) (gd_V (lw_in 468 (by decide +kernel) rfl) (lw_in 469 (by decide +kernel) rfl) (lw_in 470 (by decide +kernel) rfl) (lw_in 1 (by decide +kernel) rfl) (lw_in 471 (by decide +kernel) rfl)) (by decide +kernel) rfl rfl (by decide) (enc_0 X _ _) (by decide) hn hC hd hst hcat hdd kk
theorem cl5_195 (h : Ok l x X cc RX5 d) {s i : Nat} (hs : s < 6) (hi : i < 6) {av rest : List Value} {d' : Nat} {r : Int32} {σ' : fM} (hC : Ct l X yX1_isRuined cX1_isRuined 1 (some .boolean) d' (ra X (iO s i) :: av) σ (some (.int r)) σ') (hn : av.length = 0) (hd : decode cc pc = .ok (.invokevirtual 195, 3)) (hst : st = av.reverse ++ ra X (iO s i) :: rest) (hcat : (rest.map fun v => v.category).sum ≤ 8) (hdd : d' < d) (kk : G x X σ' L (.int r :: rest) (pc + 3)) : G x X σ L st pc := g_callV h (n := 0) (ci := 1) (gd_V (lw_in 472 (by decide +kernel) rfl) (lw_in 344 (by decide +kernel) rfl) (lw_in 345 (by decide +kernel) rfl) (lw_in 3 (by decide +kernel) rfl) (lw_in 346 (by decide +kernel) rfl)) (by decide +kernel) rfl rfl (iO_lt hs hi) (enc_O X hs hi _ _) (by decide) hn hC hd hst hcat hdd kk
theorem clL_88 (h : Ok l x X cc RL d)  {av rest : List Value} {d' : Nat} {r : Int32} {σ' : fM} (hC : Ct l X yX5_bestRow cX5_bestRow 9 (some .int) d' (ra X (0) :: av) σ (some (.int r)) σ') (hn : av.length = 4) (hd : decode cc pc = .ok (.invokevirtual 88, 3)) (hst : st = av.reverse ++ ra X (0) :: rest) (hcat : (rest.map fun v => v.category).sum ≤ 8) (hdd : d' < d) (kk : G x X σ' L (.int r :: rest) (pc + 3)) : G x X σ L st pc := g_callV h (n := 4) (ci := 5) (gd_V (lw_in 473 (by decide +kernel) rfl) (lw_in 474 (by decide +kernel) rfl) (lw_in 475 (by decide +kernel) rfl) (lw_in 1 (by decide +kernel) rfl) (lw_in 476 (by decide +kernel) rfl)) (by decide +kernel) rfl rfl (by decide) (enc_0 X _ _) (by decide) hn hC hd hst hcat hdd kk
theorem cl5_198 (h : Ok l x X cc RX5 d)  {av rest : List Value} {d' : Nat} {r : Int32} {σ' : fM} (hC : Ct l X yX5_purseBehind cX5_purseBehind 6 (some .int) d' (ra X (0) :: av) σ (some (.int r)) σ') (hn : av.length = 4) (hd : decode cc pc = .ok (.invokevirtual 198, 3)) (hst : st = av.reverse ++ ra X (0) :: rest) (hcat : (rest.map fun v => v.category).sum ≤ 8) (hdd : d' < d) (kk : G x X σ' L (.int r :: rest) (pc + 3)) : G x X σ L st pc := g_callV h (n := 4) (ci := 5) (gd_V (lw_in 477 (by decide +kernel) rfl) (lw_in 479 (by decide +kernel) rfl) (lw_sel 1 (by decide +kernel) rfl) (lw_in 1 (by decide +kernel) rfl) (lw_in 480 (by decide +kernel) rfl)) (by decide +kernel) rfl rfl (by decide) (enc_0 X _ _) (by decide) hn hC hd hst hcat hdd kk
theorem clL_93 (h : Ok l x X cc RL d)  {av rest : List Value} {d' : Nat} {r : Int32} {σ' : fM} (hC : Ct l X yX5_count cX5_count 2 (some .int) d' (ra X (0) :: av) σ (some (.int r)) σ') (hn : av.length = 1) (hd : decode cc pc = .ok (.invokevirtual 93, 3)) (hst : st = av.reverse ++ ra X (0) :: rest) (hcat : (rest.map fun v => v.category).sum ≤ 8) (hdd : d' < d) (kk : G x X σ' L (.int r :: rest) (pc + 3)) : G x X σ L st pc := g_callV h (n := 1) (ci := 5) (gd_V (lw_in 481 (by decide +kernel) rfl) (lw_in 482 (by decide +kernel) rfl) (lw_in 483 (by decide +kernel) rfl) (lw_in 1 (by decide +kernel) rfl) (lw_in 484 (by decide +kernel) rfl)) (by decide +kernel) rfl rfl (by decide) (enc_0 X _ _) (by decide) hn hC hd hst hcat hdd kk
theorem cl5_202 (h : Ok l x X cc RX5 d) {s : Nat} (hs : s < 6) {av rest : List Value} {d' : Nat} {r : Int32} {σ' : fM} (hC : Ct l X yX3_seatedOracles cX3_seatedOracles 3 (some .int) d' (ra X (iS s) :: av) σ (some (.int r)) σ') (hn : av.length = 0) (hd : decode cc pc = .ok (.invokevirtual 202, 3)) (hst : st = av.reverse ++ ra X (iS s) :: rest) (hcat : (rest.map fun v => v.category).sum ≤ 8) (hdd : d' < d) (kk : G x X σ' L (.int r :: rest) (pc + 3)) : G x X σ L st pc := g_callV h (n := 0) (ci := 3) (gd_V (lw_in 485 (by decide +kernel) rfl) (lw_in 486 (by decide +kernel) rfl) (lw_in 487 (by decide +kernel) rfl) (lw_in 2 (by decide +kernel) rfl) (lw_in 488 (by decide +kernel) rfl)) (by decide +kernel) rfl rfl (iS_lt hs) (enc_S X hs _ _) (by decide) hn hC hd hst hcat hdd kk
theorem cl3_78 (h : Ok l x X cc RX3 d) {s i : Nat} (hs : s < 6) (hi : i < 6) {av rest : List Value} {d' : Nat} {r : Int32} {σ' : fM} (hC : Ct l X yX1_hasSeat cX1_hasSeat 1 (some .boolean) d' (ra X (iO s i) :: av) σ (some (.int r)) σ') (hn : av.length = 0) (hd : decode cc pc = .ok (.invokevirtual 78, 3)) (hst : st = av.reverse ++ ra X (iO s i) :: rest) (hcat : (rest.map fun v => v.category).sum ≤ 8) (hdd : d' < d) (kk : G x X σ' L (.int r :: rest) (pc + 3)) : G x X σ L st pc := g_callV h (n := 0) (ci := 1) (gd_V (lw_in 489 (by decide +kernel) rfl) (lw_in 279 (by decide +kernel) rfl) (lw_in 280 (by decide +kernel) rfl) (lw_in 3 (by decide +kernel) rfl) (lw_in 281 (by decide +kernel) rfl)) (by decide +kernel) rfl rfl (iO_lt hs hi) (enc_O X hs hi _ _) (by decide) hn hC hd hst hcat hdd kk
theorem cl5_205 (h : Ok l x X cc RX5 d) {s : Nat} (hs : s < 6) {av rest : List Value} {d' : Nat} {r : Int32} {σ' : fM} (hC : Ct l X yX3_ruinedOracles cX3_ruinedOracles 3 (some .int) d' (ra X (iS s) :: av) σ (some (.int r)) σ') (hn : av.length = 0) (hd : decode cc pc = .ok (.invokevirtual 205, 3)) (hst : st = av.reverse ++ ra X (iS s) :: rest) (hcat : (rest.map fun v => v.category).sum ≤ 8) (hdd : d' < d) (kk : G x X σ' L (.int r :: rest) (pc + 3)) : G x X σ L st pc := g_callV h (n := 0) (ci := 3) (gd_V (lw_in 490 (by decide +kernel) rfl) (lw_in 491 (by decide +kernel) rfl) (lw_in 492 (by decide +kernel) rfl) (lw_in 2 (by decide +kernel) rfl) (lw_in 493 (by decide +kernel) rfl)) (by decide +kernel) rfl rfl (iS_lt hs) (enc_S X hs _ _) (by decide) hn hC hd hst hcat hdd kk
theorem cl3_82 (h : Ok l x X cc RX3 d) {s i : Nat} (hs : s < 6) (hi : i < 6) {av rest : List Value} {d' : Nat} {r : Int32} {σ' : fM} (hC : Ct l X yX1_isRuined cX1_isRuined 1 (some .boolean) d' (ra X (iO s i) :: av) σ (some (.int r)) σ') (hn : av.length = 0) (hd : decode cc pc = .ok (.invokevirtual 82, 3)) (hst : st = av.reverse ++ ra X (iO s i) :: rest) (hcat : (rest.map fun v => v.category).sum ≤ 8) (hdd : d' < d) (kk : G x X σ' L (.int r :: rest) (pc + 3)) : G x X σ L st pc := g_callV h (n := 0) (ci := 1) (gd_V (lw_in 494 (by decide +kernel) rfl) (lw_in 344 (by decide +kernel) rfl) (lw_in 345 (by decide +kernel) rfl) (lw_in 3 (by decide +kernel) rfl) (lw_in 346 (by decide +kernel) rfl)) (by decide +kernel) rfl rfl (iO_lt hs hi) (enc_O X hs hi _ _) (by decide) hn hC hd hst hcat hdd kk
theorem cl5_211 (h : Ok l x X cc RX5 d) {s : Nat} (hs : s < 6) {av rest : List Value} {d' : Nat} {r : Int32} {σ' : fM} (hC : Ct l X yX3_allCoins cX3_allCoins 3 (some .int) d' (ra X (iS s) :: av) σ (some (.int r)) σ') (hn : av.length = 0) (hd : decode cc pc = .ok (.invokevirtual 211, 3)) (hst : st = av.reverse ++ ra X (iS s) :: rest) (hcat : (rest.map fun v => v.category).sum ≤ 8) (hdd : d' < d) (kk : G x X σ' L (.int r :: rest) (pc + 3)) : G x X σ L st pc := g_callV h (n := 0) (ci := 3) (gd_V (lw_in 495 (by decide +kernel) rfl) (lw_in 496 (by decide +kernel) rfl) (lw_in 497 (by decide +kernel) rfl) (lw_in 2 (by decide +kernel) rfl) (lw_in 498 (by decide +kernel) rfl)) (by decide +kernel) rfl rfl (iS_lt hs) (enc_S X hs _ _) (by decide) hn hC hd hst hcat hdd kk
theorem clL_97 (h : Ok l x X cc RL d)  {av rest : List Value} {d' : Nat} {r : Int32} {σ' : fM} (hC : Ct l X yX5_undo cX5_undo 1 (some .int) d' (ra X (0) :: av) σ (some (.int r)) σ') (hn : av.length = 0) (hd : decode cc pc = .ok (.invokevirtual 97, 3)) (hst : st = av.reverse ++ ra X (0) :: rest) (hcat : (rest.map fun v => v.category).sum ≤ 8) (hdd : d' < d) (kk : G x X σ' L (.int r :: rest) (pc + 3)) : G x X σ L st pc := g_callV h (n := 0) (ci := 5) (gd_V (lw_in 499 (by decide +kernel) rfl) (lw_in 500 (by decide +kernel) rfl) (lw_in 501 (by decide +kernel) rfl) (lw_in 1 (by decide +kernel) rfl) (lw_in 502 (by decide +kernel) rfl)) (by decide +kernel) rfl rfl (by decide) (enc_0 X _ _) (by decide) hn hC hd hst hcat hdd kk
theorem cl5_226 (h : Ok l x X cc RX5 d)  {av rest : List Value} {d' : Nat} {σ' : fM} (hC : Ct l X yX2_restoreInto cX2_restoreInto 2 none d' (ra X (1) :: av) σ none σ') (hn : av.length = 1) (hd : decode cc pc = .ok (.invokevirtual 226, 3)) (hst : st = av.reverse ++ ra X (1) :: rest) (hcat : (rest.map fun v => v.category).sum ≤ 8) (hdd : d' < d) (kk : G x X σ' L (rest) (pc + 3)) : G x X σ L st pc := g_callV h (n := 1) (ci := 2) (gd_V (lw_in 503 (by decide +kernel) rfl) (lw_in 504 (by decide +kernel) rfl) (lw_in 505 (by decide +kernel) rfl) (lw_in 5 (by decide +kernel) rfl) (lw_in 506 (by decide +kernel) rfl)) (by decide +kernel) rfl rfl (by decide) (enc_1 X _ _) (by decide) hn hC hd hst hcat hdd kk
theorem clL_102 (h : Ok l x X cc RL d)  {av rest : List Value} {d' : Nat} {r : Int32} {σ' : fM} (hC : Ct l X yX5_type cX5_type 2 (some .int) d' (ra X (0) :: av) σ (some (.int r)) σ') (hn : av.length = 1) (hd : decode cc pc = .ok (.invokevirtual 102, 3)) (hst : st = av.reverse ++ ra X (0) :: rest) (hcat : (rest.map fun v => v.category).sum ≤ 8) (hdd : d' < d) (kk : G x X σ' L (.int r :: rest) (pc + 3)) : G x X σ L st pc := g_callV h (n := 1) (ci := 5) (gd_V (lw_in 507 (by decide +kernel) rfl) (lw_in 508 (by decide +kernel) rfl) (lw_in 509 (by decide +kernel) rfl) (lw_in 1 (by decide +kernel) rfl) (lw_in 510 (by decide +kernel) rfl)) (by decide +kernel) rfl rfl (by decide) (enc_0 X _ _) (by decide) hn hC hd hst hcat hdd kk
theorem cl5_229 (h : Ok l x X cc RX5 d)  {av rest : List Value} {d' : Nat} {σ' : fM} (hC : Ct l X yX4_append cX4_append 2 none d' (ra X (3) :: av) σ none σ') (hn : av.length = 1) (hd : decode cc pc = .ok (.invokevirtual 229, 3)) (hst : st = av.reverse ++ ra X (3) :: rest) (hcat : (rest.map fun v => v.category).sum ≤ 8) (hdd : d' < d) (kk : G x X σ' L (rest) (pc + 3)) : G x X σ L st pc := g_callV h (n := 1) (ci := 4) (gd_V (lw_in 511 (by decide +kernel) rfl) (lw_in 512 (by decide +kernel) rfl) (lw_in 513 (by decide +kernel) rfl) (lw_in 6 (by decide +kernel) rfl) (lw_in 514 (by decide +kernel) rfl)) (by decide +kernel) rfl rfl (by decide) (enc_3 X _ _) (by decide) hn hC hd hst hcat hdd kk
theorem clL_106 (h : Ok l x X cc RL d)  {av rest : List Value} {d' : Nat} {r : Int32} {σ' : fM} (hC : Ct l X yX5_clearText cX5_clearText 2 (some .int) d' (ra X (0) :: av) σ (some (.int r)) σ') (hn : av.length = 0) (hd : decode cc pc = .ok (.invokevirtual 106, 3)) (hst : st = av.reverse ++ ra X (0) :: rest) (hcat : (rest.map fun v => v.category).sum ≤ 8) (hdd : d' < d) (kk : G x X σ' L (.int r :: rest) (pc + 3)) : G x X σ L st pc := g_callV h (n := 0) (ci := 5) (gd_V (lw_in 515 (by decide +kernel) rfl) (lw_in 516 (by decide +kernel) rfl) (lw_in 517 (by decide +kernel) rfl) (lw_in 1 (by decide +kernel) rfl) (lw_in 518 (by decide +kernel) rfl)) (by decide +kernel) rfl rfl (by decide) (enc_0 X _ _) (by decide) hn hC hd hst hcat hdd kk
theorem clL_110 (h : Ok l x X cc RL d)  {av rest : List Value} {d' : Nat} {r : Int32} {σ' : fM} (hC : Ct l X yX5_fault cX5_fault 2 (some .int) d' (ra X (0) :: av) σ (some (.int r)) σ') (hn : av.length = 1) (hd : decode cc pc = .ok (.invokevirtual 110, 3)) (hst : st = av.reverse ++ ra X (0) :: rest) (hcat : (rest.map fun v => v.category).sum ≤ 8) (hdd : d' < d) (kk : G x X σ' L (.int r :: rest) (pc + 3)) : G x X σ L st pc := g_callV h (n := 1) (ci := 5) (gd_V (lw_in 519 (by decide +kernel) rfl) (lw_in 520 (by decide +kernel) rfl) (lw_in 521 (by decide +kernel) rfl) (lw_in 1 (by decide +kernel) rfl) (lw_in 522 (by decide +kernel) rfl)) (by decide +kernel) rfl rfl (by decide) (enc_0 X _ _) (by decide) hn hC hd hst hcat hdd kk
theorem cl5_233 (h : Ok l x X cc RX5 d)  {av rest : List Value} {d' : Nat} {r : Int32} {σ' : fM} (hC : Ct l X yX4_hasFault cX4_hasFault 3 (some .boolean) d' (ra X (3) :: av) σ (some (.int r)) σ') (hn : av.length = 0) (hd : decode cc pc = .ok (.invokevirtual 233, 3)) (hst : st = av.reverse ++ ra X (3) :: rest) (hcat : (rest.map fun v => v.category).sum ≤ 8) (hdd : d' < d) (kk : G x X σ' L (.int r :: rest) (pc + 3)) : G x X σ L st pc := g_callV h (n := 0) (ci := 4) (gd_V (lw_in 523 (by decide +kernel) rfl) (lw_in 524 (by decide +kernel) rfl) (lw_in 525 (by decide +kernel) rfl) (lw_in 6 (by decide +kernel) rfl) (lw_in 526 (by decide +kernel) rfl)) (by decide +kernel) rfl rfl (by decide) (enc_3 X _ _) (by decide) hn hC hd hst hcat hdd kk
theorem cl4_23 (h : Ok l x X cc RX4 d)  {av rest : List Value} {d' : Nat} {σ' : fM} (hC : Ct l X yX4_readOrder cX4_readOrder 5 none d' (ra X (3) :: av) σ none σ') (hn : av.length = 1) (hd : decode cc pc = .ok (.invokevirtual 23, 3)) (hst : st = av.reverse ++ ra X (3) :: rest) (hcat : (rest.map fun v => v.category).sum ≤ 8) (hdd : d' < d) (kk : G x X σ' L (rest) (pc + 3)) : G x X σ L st pc := g_callV h (n := 1) (ci := 4) (gd_V (lw_in 527 (by decide +kernel) rfl) (lw_in 528 (by decide +kernel) rfl) (lw_in 529 (by decide +kernel) rfl) (lw_in 6 (by decide +kernel) rfl) (lw_in 530 (by decide +kernel) rfl)) (by decide +kernel) rfl rfl (by decide) (enc_3 X _ _) (by decide) hn hC hd hst hcat hdd kk
theorem cl4_39 (h : Ok l x X cc RX4 d)  {av rest : List Value} {d' : Nat} {r : Int32} {σ' : fM} (hC : Ct l X yX4_endOfLetters cX4_endOfLetters 4 (some .int) d' (ra X (3) :: av) σ (some (.int r)) σ') (hn : av.length = 1) (hd : decode cc pc = .ok (.invokevirtual 39, 3)) (hst : st = av.reverse ++ ra X (3) :: rest) (hcat : (rest.map fun v => v.category).sum ≤ 8) (hdd : d' < d) (kk : G x X σ' L (.int r :: rest) (pc + 3)) : G x X σ L st pc := g_callV h (n := 1) (ci := 4) (gd_V (lw_in 531 (by decide +kernel) rfl) (lw_in 532 (by decide +kernel) rfl) (lw_in 533 (by decide +kernel) rfl) (lw_in 6 (by decide +kernel) rfl) (lw_in 534 (by decide +kernel) rfl)) (by decide +kernel) rfl rfl (by decide) (enc_3 X _ _) (by decide) hn hC hd hst hcat hdd kk
theorem cl4_53 (h : Ok l x X cc RX4 d)  {av rest : List Value} {d' : Nat} {r : Int32} {σ' : fM} (hC : Ct l X yX4_characterAt cX4_characterAt 2 (some .char) d' (ra X (3) :: av) σ (some (.int r)) σ') (hn : av.length = 1) (hd : decode cc pc = .ok (.invokevirtual 53, 3)) (hst : st = av.reverse ++ ra X (3) :: rest) (hcat : (rest.map fun v => v.category).sum ≤ 8) (hdd : d' < d) (kk : G x X σ' L (.int r :: rest) (pc + 3)) : G x X σ L st pc := g_callV h (n := 1) (ci := 4) (gd_V (lw_in 535 (by decide +kernel) rfl) (lw_in 536 (by decide +kernel) rfl) (lw_in 537 (by decide +kernel) rfl) (lw_in 6 (by decide +kernel) rfl) (lw_in 538 (by decide +kernel) rfl)) (by decide +kernel) rfl rfl (by decide) (enc_3 X _ _) (by decide) hn hC hd hst hcat hdd kk
theorem cl4_70 (h : Ok l x X cc RX4 d) {av rest : List Value} {d' : Nat} {r : Int32} {σ' : fM} (hC : Ct l X yX5_isWithin cX5_isWithin 3 (some .boolean) d' av σ (some (.int r)) σ') (hn : av.length = 3) (hd : decode cc pc = .ok (.invokestatic 70, 3)) (hst : st = av.reverse ++ rest) (hcat : (rest.map fun v => v.category).sum ≤ 8) (hdd : d' < d) (kk : G x X σ' L (.int r :: rest) (pc + 3)) : G x X σ L st pc := g_callSN h (n := 3) (gd_T (lw_in 232 (by decide +kernel) rfl)) (h.hZ.2.1.1) (lw_in 231 (by decide +kernel) rfl) (lw_in 1 (by decide +kernel) rfl) (by decide +kernel) (by decide) hn hC hd hst hcat hdd kk
theorem cl4_43 (h : Ok l x X cc RX4 d)  {av rest : List Value} {d' : Nat} {r : Int32} {σ' : fM} (hC : Ct l X yX4_wordUpTo cX4_wordUpTo 2 (some .int) d' (ra X (3) :: av) σ (some (.int r)) σ') (hn : av.length = 1) (hd : decode cc pc = .ok (.invokevirtual 43, 3)) (hst : st = av.reverse ++ ra X (3) :: rest) (hcat : (rest.map fun v => v.category).sum ≤ 8) (hdd : d' < d) (kk : G x X σ' L (.int r :: rest) (pc + 3)) : G x X σ L st pc := g_callV h (n := 1) (ci := 4) (gd_V (lw_in 540 (by decide +kernel) rfl) (lw_in 541 (by decide +kernel) rfl) (lw_in 542 (by decide +kernel) rfl) (lw_in 6 (by decide +kernel) rfl) (lw_in 543 (by decide +kernel) rfl)) (by decide +kernel) rfl rfl (by decide) (enc_3 X _ _) (by decide) hn hC hd hst hcat hdd kk
theorem cl4_79 (h : Ok l x X cc RX4 d)  {av rest : List Value} {d' : Nat} {r : Int32} {σ' : fM} (hC : Ct l X yX4_isWord cX4_isWord 4 (some .boolean) d' (ra X (3) :: av) σ (some (.int r)) σ') (hn : av.length = 2) (hd : decode cc pc = .ok (.invokevirtual 79, 3)) (hst : st = av.reverse ++ ra X (3) :: rest) (hcat : (rest.map fun v => v.category).sum ≤ 8) (hdd : d' < d) (kk : G x X σ' L (.int r :: rest) (pc + 3)) : G x X σ L st pc := g_callV h (n := 2) (ci := 4) (gd_V (lw_in 545 (by decide +kernel) rfl) (lw_in 546 (by decide +kernel) rfl) (lw_in 547 (by decide +kernel) rfl) (lw_in 6 (by decide +kernel) rfl) (lw_in 548 (by decide +kernel) rfl)) (by decide +kernel) rfl rfl (by decide) (enc_3 X _ _) (by decide) hn hC hd hst hcat hdd kk
theorem cl4_49 (h : Ok l x X cc RX4 d)  {av rest : List Value} {d' : Nat} {r : Int32} {σ' : fM} (hC : Ct l X yX4_readNumber cX4_readNumber 2 (some .boolean) d' (ra X (3) :: av) σ (some (.int r)) σ') (hn : av.length = 1) (hd : decode cc pc = .ok (.invokevirtual 49, 3)) (hst : st = av.reverse ++ ra X (3) :: rest) (hcat : (rest.map fun v => v.category).sum ≤ 8) (hdd : d' < d) (kk : G x X σ' L (.int r :: rest) (pc + 3)) : G x X σ L st pc := g_callV h (n := 1) (ci := 4) (gd_V (lw_in 601 (by decide +kernel) rfl) (lw_in 602 (by decide +kernel) rfl) (lw_in 603 (by decide +kernel) rfl) (lw_in 6 (by decide +kernel) rfl) (lw_in 604 (by decide +kernel) rfl)) (by decide +kernel) rfl rfl (by decide) (enc_3 X _ _) (by decide) hn hC hd hst hcat hdd kk
theorem cl4_60 (h : Ok l x X cc RX4 d) {av rest : List Value} {d' : Nat} {r : Int32} {σ' : fM} (hC : Ct l X yX4_isDigit cX4_isDigit 1 (some .boolean) d' av σ (some (.int r)) σ') (hn : av.length = 1) (hd : decode cc pc = .ok (.invokestatic 60, 3)) (hst : st = av.reverse ++ rest) (hcat : (rest.map fun v => v.category).sum ≤ 8) (hdd : d' < d) (kk : G x X σ' L (.int r :: rest) (pc + 3)) : G x X σ L st pc := g_callS h (n := 1) (gd_T (lw_in 607 (by decide +kernel) rfl)) (lw_in 605 (by decide +kernel) rfl) (lw_in 606 (by decide +kernel) rfl) (lw_in 6 (by decide +kernel) rfl) (by decide +kernel) (by decide) hn hC hd hst hcat hdd kk
theorem cl4_57 (h : Ok l x X cc RX4 d)  {av rest : List Value} {d' : Nat} {σ' : fM} (hC : Ct l X yX4_checkRanges cX4_checkRanges 1 none d' (ra X (3) :: av) σ none σ') (hn : av.length = 0) (hd : decode cc pc = .ok (.invokevirtual 57, 3)) (hst : st = av.reverse ++ ra X (3) :: rest) (hcat : (rest.map fun v => v.category).sum ≤ 8) (hdd : d' < d) (kk : G x X σ' L (rest) (pc + 3)) : G x X σ L st pc := g_callV h (n := 0) (ci := 4) (gd_V (lw_in 608 (by decide +kernel) rfl) (lw_in 609 (by decide +kernel) rfl) (lw_in 610 (by decide +kernel) rfl) (lw_in 6 (by decide +kernel) rfl) (lw_in 611 (by decide +kernel) rfl)) (by decide +kernel) rfl rfl (by decide) (enc_3 X _ _) (by decide) hn hC hd hst hcat hdd kk
theorem cl4_74 (h : Ok l x X cc RX4 d) {av rest : List Value} {d' : Nat} {r : Int32} {σ' : fM} (hC : Ct l X yX5_isAddress cX5_isAddress 1 (some .boolean) d' av σ (some (.int r)) σ') (hn : av.length = 1) (hd : decode cc pc = .ok (.invokestatic 74, 3)) (hst : st = av.reverse ++ rest) (hcat : (rest.map fun v => v.category).sum ≤ 8) (hdd : d' < d) (kk : G x X σ' L (.int r :: rest) (pc + 3)) : G x X σ L st pc := g_callSN h (n := 1) (gd_T (lw_in 325 (by decide +kernel) rfl)) (h.hZ.2.1.2) (lw_in 324 (by decide +kernel) rfl) (lw_in 1 (by decide +kernel) rfl) (by decide +kernel) (by decide) hn hC hd hst hcat hdd kk
theorem clL_114 (h : Ok l x X cc RL d)  {av rest : List Value} {d' : Nat} {r : Int32} {σ' : fM} (hC : Ct l X yX5_play cX5_play 4 (some .int) d' (ra X (0) :: av) σ (some (.int r)) σ') (hn : av.length = 0) (hd : decode cc pc = .ok (.invokevirtual 114, 3)) (hst : st = av.reverse ++ ra X (0) :: rest) (hcat : (rest.map fun v => v.category).sum ≤ 8) (hdd : d' < d) (kk : G x X σ' L (.int r :: rest) (pc + 3)) : G x X σ L st pc := g_callV h (n := 0) (ci := 5) (gd_V (lw_in 616 (by decide +kernel) rfl) (lw_in 617 (by decide +kernel) rfl) (lw_in 618 (by decide +kernel) rfl) (lw_in 1 (by decide +kernel) rfl) (lw_in 619 (by decide +kernel) rfl)) (by decide +kernel) rfl rfl (by decide) (enc_0 X _ _) (by decide) hn hC hd hst hcat hdd kk
theorem cl5_245 (h : Ok l x X cc RX5 d)  {av rest : List Value} {d' : Nat} {σ' : fM} (hC : Ct l X yX4_readOrder cX4_readOrder 5 none d' (ra X (3) :: av) σ none σ') (hn : av.length = 1) (hd : decode cc pc = .ok (.invokevirtual 245, 3)) (hst : st = av.reverse ++ ra X (3) :: rest) (hcat : (rest.map fun v => v.category).sum ≤ 8) (hdd : d' < d) (kk : G x X σ' L (rest) (pc + 3)) : G x X σ L st pc := g_callV h (n := 1) (ci := 4) (gd_V (lw_in 620 (by decide +kernel) rfl) (lw_in 528 (by decide +kernel) rfl) (lw_in 529 (by decide +kernel) rfl) (lw_in 6 (by decide +kernel) rfl) (lw_in 530 (by decide +kernel) rfl)) (by decide +kernel) rfl rfl (by decide) (enc_3 X _ _) (by decide) hn hC hd hst hcat hdd kk
theorem cl5_248 (h : Ok l x X cc RX5 d)  {av rest : List Value} {d' : Nat} {r : Int32} {σ' : fM} (hC : Ct l X yX5_doOrderRead cX5_doOrderRead 4 (some .int) d' (ra X (0) :: av) σ (some (.int r)) σ') (hn : av.length = 0) (hd : decode cc pc = .ok (.invokevirtual 248, 3)) (hst : st = av.reverse ++ ra X (0) :: rest) (hcat : (rest.map fun v => v.category).sum ≤ 8) (hdd : d' < d) (kk : G x X σ' L (.int r :: rest) (pc + 3)) : G x X σ L st pc := g_callV h (n := 0) (ci := 5) (gd_V (lw_in 621 (by decide +kernel) rfl) (lw_in 623 (by decide +kernel) rfl) (lw_sel 2 (by decide +kernel) rfl) (lw_in 1 (by decide +kernel) rfl) (lw_in 624 (by decide +kernel) rfl)) (by decide +kernel) rfl rfl (by decide) (enc_0 X _ _) (by decide) hn hC hd hst hcat hdd kk
theorem cl5_262 (h : Ok l x X cc RX5 d) {av rest : List Value} {d' : Nat} {r : Int32} {σ' : fM} (hC : Ct l X yX5_wayOf cX5_wayOf 3 (some .int) d' av σ (some (.int r)) σ') (hn : av.length = 3) (hd : decode cc pc = .ok (.invokestatic 262, 3)) (hst : st = av.reverse ++ rest) (hcat : (rest.map fun v => v.category).sum ≤ 8) (hdd : d' < d) (kk : G x X σ' L (.int r :: rest) (pc + 3)) : G x X σ L st pc := g_callS h (n := 3) (gd_T (lw_in 627 (by decide +kernel) rfl)) (lw_in 625 (by decide +kernel) rfl) (lw_in 626 (by decide +kernel) rfl) (lw_in 1 (by decide +kernel) rfl) (by decide +kernel) (by decide) hn hC hd hst hcat hdd kk
theorem gf6_7 (h : Ok l x X cc RX6 d)  (hd : decode cc pc = .ok (.getfield 7, 3)) (k : G x X σ L (ra X (151) :: st) (pc + 3)) : G x X σ L (ra X (150) :: st) pc := fun H locs ls hP hS hl => va_get (D := X.1) (ci := 6) (C := RX6) (T := TX6) (N := 17) h.hx h.hb h.hts lw_x6 h.ho h.hK hP (150) (by rw [wl_get (by decide), enc_150 X]) rfl 0 (by decide) (h.hts (.fieldLink RX6 7 "BranchBetsModel" "state" "[I") (lw_in 634 (by decide +kernel) rfl)) (fun _ h9 => h9) rfl hd (k H locs ls hP hS hl)
theorem gf6_13 (h : Ok l x X cc RX6 d)  (hd : decode cc pc = .ok (.getfield 13, 3)) (k : G x X σ L (ra X (152) :: st) (pc + 3)) : G x X σ L (ra X (150) :: st) pc := fun H locs ls hP hS hl => va_get (D := X.1) (ci := 6) (C := RX6) (T := TX6) (N := 17) h.hx h.hb h.hts lw_x6 h.ho h.hK hP (150) (by rw [wl_get (by decide), enc_150 X]) rfl 1 (by decide) (h.hts (.fieldLink RX6 13 "BranchBetsModel" "kept" "[I") (lw_in 635 (by decide +kernel) rfl)) (fun _ h9 => h9) rfl hd (k H locs ls hP hS hl)
theorem gf6_16 (h : Ok l x X cc RX6 d)  (hd : decode cc pc = .ok (.getfield 16, 3)) (k : G x X σ L (ra X (153) :: st) (pc + 3)) : G x X σ L (ra X (150) :: st) pc := fun H locs ls hP hS hl => va_get (D := X.1) (ci := 6) (C := RX6) (T := TX6) (N := 17) h.hx h.hb h.hts lw_x6 h.ho h.hK hP (150) (by rw [wl_get (by decide), enc_150 X]) rfl 2 (by decide) (h.hts (.fieldLink RX6 16 "BranchBetsModel" "states" "[I") (lw_in 636 (by decide +kernel) rfl)) (fun _ h9 => h9) rfl hd (k H locs ls hP hS hl)
theorem gf6_34 (h : Ok l x X cc RX6 d)  (hd : decode cc pc = .ok (.getfield 34, 3)) (k : G x X σ L (.int (σ.1 (150) 3) :: st) (pc + 3)) : G x X σ L (ra X (150) :: st) pc := fun H locs ls hP hS hl => va_get (D := X.1) (ci := 6) (C := RX6) (T := TX6) (N := 17) h.hx h.hb h.hts lw_x6 h.ho h.hK hP (150) (by rw [wl_get (by decide), enc_150 X]) rfl 3 (by decide) (h.hts (.fieldLink RX6 34 "BranchBetsModel" "recorded" "I") (lw_in 637 (by decide +kernel) rfl)) (fun _ h9 => h9) rfl hd (k H locs ls hP hS hl)
theorem gp6_34 (h : Ok l x X cc RX6 d)  {v : Int32} (hd : decode cc pc = .ok (.putfield 34, 3)) (k : G x X (pu σ (150) 3 v) L st (pc + 3)) : G x X σ L (.int v :: ra X (150) :: st) pc := fun H locs ls hP hS hl => va_put (D := X.1) (ci := 6) (v := .int v) (ty := .int) (C := RX6) (T := TX6) (N := 17) h.hx h.hb h.hts lw_x6 tyX6 tyX6_ok nmX6 h.ho h.hK hP (wl_D h.hA σ) hS (150) (by rw [wl_get (by decide), enc_150 X]) rfl 3 (by decide) (h.hts (.fieldLink RX6 34 "BranchBetsModel" "recorded" "I") (lw_in 637 (by decide +kernel) rfl)) (fun _ h9 => h9) rfl (by decide +kernel) rfl rfl (Nat.le_of_ble_eq_true rfl) hd (fun H1 locs1 hP1 hD1 hS1 => k H1 locs1 ls (by rw [wl_set (σ' := pu σ (150) 3 v) (by rw [enc_150 X]; simp [pu]) (fun k' hne => pu_ne k' hne) (fun _ _ => rfl)] at hP1; exact hP1) hS1 hl)
theorem gf6_19 (h : Ok l x X cc RX6 d)  (hd : decode cc pc = .ok (.getfield 19, 3)) (k : G x X σ L (ra X (154) :: st) (pc + 3)) : G x X σ L (ra X (150) :: st) pc := fun H locs ls hP hS hl => va_get (D := X.1) (ci := 6) (C := RX6) (T := TX6) (N := 17) h.hx h.hb h.hts lw_x6 h.ho h.hK hP (150) (by rw [wl_get (by decide), enc_150 X]) rfl 4 (by decide) (h.hts (.fieldLink RX6 19 "BranchBetsModel" "text" "[I") (lw_in 638 (by decide +kernel) rfl)) (fun _ h9 => h9) rfl hd (k H locs ls hP hS hl)
theorem gf6_140 (h : Ok l x X cc RX6 d)  (hd : decode cc pc = .ok (.getfield 140, 3)) (k : G x X σ L (.int (σ.1 (150) 5) :: st) (pc + 3)) : G x X σ L (ra X (150) :: st) pc := fun H locs ls hP hS hl => va_get (D := X.1) (ci := 6) (C := RX6) (T := TX6) (N := 17) h.hx h.hb h.hts lw_x6 h.ho h.hK hP (150) (by rw [wl_get (by decide), enc_150 X]) rfl 5 (by decide) (h.hts (.fieldLink RX6 140 "BranchBetsModel" "textLength" "I") (lw_in 639 (by decide +kernel) rfl)) (fun _ h9 => h9) rfl hd (k H locs ls hP hS hl)
theorem gp6_140 (h : Ok l x X cc RX6 d)  {v : Int32} (hd : decode cc pc = .ok (.putfield 140, 3)) (k : G x X (pu σ (150) 5 v) L st (pc + 3)) : G x X σ L (.int v :: ra X (150) :: st) pc := fun H locs ls hP hS hl => va_put (D := X.1) (ci := 6) (v := .int v) (ty := .int) (C := RX6) (T := TX6) (N := 17) h.hx h.hb h.hts lw_x6 tyX6 tyX6_ok nmX6 h.ho h.hK hP (wl_D h.hA σ) hS (150) (by rw [wl_get (by decide), enc_150 X]) rfl 5 (by decide) (h.hts (.fieldLink RX6 140 "BranchBetsModel" "textLength" "I") (lw_in 639 (by decide +kernel) rfl)) (fun _ h9 => h9) rfl (by decide +kernel) rfl rfl (Nat.le_of_ble_eq_true rfl) hd (fun H1 locs1 hP1 hD1 hS1 => k H1 locs1 ls (by rw [wl_set (σ' := pu σ (150) 5 v) (by rw [enc_150 X]; simp [pu]) (fun k' hne => pu_ne k' hne) (fun _ _ => rfl)] at hP1; exact hP1) hS1 hl)
theorem gf6_22 (h : Ok l x X cc RX6 d)  (hd : decode cc pc = .ok (.getfield 22, 3)) (k : G x X σ L (ra X (155) :: st) (pc + 3)) : G x X σ L (ra X (150) :: st) pc := fun H locs ls hP hS hl => va_get (D := X.1) (ci := 6) (C := RX6) (T := TX6) (N := 17) h.hx h.hb h.hts lw_x6 h.ho h.hK hP (150) (by rw [wl_get (by decide), enc_150 X]) rfl 6 (by decide) (h.hts (.fieldLink RX6 22 "BranchBetsModel" "takesPart" "[I") (lw_in 640 (by decide +kernel) rfl)) (fun _ h9 => h9) rfl hd (k H locs ls hP hS hl)
theorem gf6_25 (h : Ok l x X cc RX6 d)  (hd : decode cc pc = .ok (.getfield 25, 3)) (k : G x X σ L (ra X (156) :: st) (pc + 3)) : G x X σ L (ra X (150) :: st) pc := fun H locs ls hP hS hl => va_get (D := X.1) (ci := 6) (C := RX6) (T := TX6) (N := 17) h.hx h.hb h.hts lw_x6 h.ho h.hK hP (150) (by rw [wl_get (by decide), enc_150 X]) rfl 7 (by decide) (h.hts (.fieldLink RX6 25 "BranchBetsModel" "said" "[I") (lw_in 641 (by decide +kernel) rfl)) (fun _ h9 => h9) rfl hd (k H locs ls hP hS hl)
theorem gf6_28 (h : Ok l x X cc RX6 d)  (hd : decode cc pc = .ok (.getfield 28, 3)) (k : G x X σ L (ra X (157) :: st) (pc + 3)) : G x X σ L (ra X (150) :: st) pc := fun H locs ls hP hS hl => va_get (D := X.1) (ci := 6) (C := RX6) (T := TX6) (N := 17) h.hx h.hb h.hts lw_x6 h.ho h.hK hP (150) (by rw [wl_get (by decide), enc_150 X]) rfl 8 (by decide) (h.hts (.fieldLink RX6 28 "BranchBetsModel" "stakes" "[I") (lw_in 642 (by decide +kernel) rfl)) (fun _ h9 => h9) rfl hd (k H locs ls hP hS hl)
theorem gf6_31 (h : Ok l x X cc RX6 d)  (hd : decode cc pc = .ok (.getfield 31, 3)) (k : G x X σ L (ra X (158) :: st) (pc + 3)) : G x X σ L (ra X (150) :: st) pc := fun H locs ls hP hS hl => va_get (D := X.1) (ci := 6) (C := RX6) (T := TX6) (N := 17) h.hx h.hb h.hts lw_x6 h.ho h.hK hP (150) (by rw [wl_get (by decide), enc_150 X]) rfl 9 (by decide) (h.hts (.fieldLink RX6 31 "BranchBetsModel" "purses" "[I") (lw_in 643 (by decide +kernel) rfl)) (fun _ h9 => h9) rfl hd (k H locs ls hP hS hl)
theorem gf6_146 (h : Ok l x X cc RX6 d)  (hd : decode cc pc = .ok (.getfield 146, 3)) (k : G x X σ L (.int (σ.1 (150) 10) :: st) (pc + 3)) : G x X σ L (ra X (150) :: st) pc := fun H locs ls hP hS hl => va_get (D := X.1) (ci := 6) (C := RX6) (T := TX6) (N := 17) h.hx h.hb h.hts lw_x6 h.ho h.hK hP (150) (by rw [wl_get (by decide), enc_150 X]) rfl 10 (by decide) (h.hts (.fieldLink RX6 146 "BranchBetsModel" "begin" "I") (lw_in 644 (by decide +kernel) rfl)) (fun _ h9 => h9) rfl hd (k H locs ls hP hS hl)
theorem gp6_146 (h : Ok l x X cc RX6 d)  {v : Int32} (hd : decode cc pc = .ok (.putfield 146, 3)) (k : G x X (pu σ (150) 10 v) L st (pc + 3)) : G x X σ L (.int v :: ra X (150) :: st) pc := fun H locs ls hP hS hl => va_put (D := X.1) (ci := 6) (v := .int v) (ty := .int) (C := RX6) (T := TX6) (N := 17) h.hx h.hb h.hts lw_x6 tyX6 tyX6_ok nmX6 h.ho h.hK hP (wl_D h.hA σ) hS (150) (by rw [wl_get (by decide), enc_150 X]) rfl 10 (by decide) (h.hts (.fieldLink RX6 146 "BranchBetsModel" "begin" "I") (lw_in 644 (by decide +kernel) rfl)) (fun _ h9 => h9) rfl (by decide +kernel) rfl rfl (Nat.le_of_ble_eq_true rfl) hd (fun H1 locs1 hP1 hD1 hS1 => k H1 locs1 ls (by rw [wl_set (σ' := pu σ (150) 10 v) (by rw [enc_150 X]; simp [pu]) (fun k' hne => pu_ne k' hne) (fun _ _ => rfl)] at hP1; exact hP1) hS1 hl)
theorem gf6_162 (h : Ok l x X cc RX6 d)  (hd : decode cc pc = .ok (.getfield 162, 3)) (k : G x X σ L (.int (σ.1 (150) 11) :: st) (pc + 3)) : G x X σ L (ra X (150) :: st) pc := fun H locs ls hP hS hl => va_get (D := X.1) (ci := 6) (C := RX6) (T := TX6) (N := 17) h.hx h.hb h.hts lw_x6 h.ho h.hK hP (150) (by rw [wl_get (by decide), enc_150 X]) rfl 11 (by decide) (h.hts (.fieldLink RX6 162 "BranchBetsModel" "order" "I") (lw_in 645 (by decide +kernel) rfl)) (fun _ h9 => h9) rfl hd (k H locs ls hP hS hl)
theorem gp6_162 (h : Ok l x X cc RX6 d)  {v : Int32} (hd : decode cc pc = .ok (.putfield 162, 3)) (k : G x X (pu σ (150) 11 v) L st (pc + 3)) : G x X σ L (.int v :: ra X (150) :: st) pc := fun H locs ls hP hS hl => va_put (D := X.1) (ci := 6) (v := .int v) (ty := .int) (C := RX6) (T := TX6) (N := 17) h.hx h.hb h.hts lw_x6 tyX6 tyX6_ok nmX6 h.ho h.hK hP (wl_D h.hA σ) hS (150) (by rw [wl_get (by decide), enc_150 X]) rfl 11 (by decide) (h.hts (.fieldLink RX6 162 "BranchBetsModel" "order" "I") (lw_in 645 (by decide +kernel) rfl)) (fun _ h9 => h9) rfl (by decide +kernel) rfl rfl (Nat.le_of_ble_eq_true rfl) hd (fun H1 locs1 hP1 hD1 hS1 => k H1 locs1 ls (by rw [wl_set (σ' := pu σ (150) 11 v) (by rw [enc_150 X]; simp [pu]) (fun k' hne => pu_ne k' hne) (fun _ _ => rfl)] at hP1; exact hP1) hS1 hl)
theorem gf6_165 (h : Ok l x X cc RX6 d)  (hd : decode cc pc = .ok (.getfield 165, 3)) (k : G x X σ L (.int (σ.1 (150) 12) :: st) (pc + 3)) : G x X σ L (ra X (150) :: st) pc := fun H locs ls hP hS hl => va_get (D := X.1) (ci := 6) (C := RX6) (T := TX6) (N := 17) h.hx h.hb h.hts lw_x6 h.ho h.hK hP (150) (by rw [wl_get (by decide), enc_150 X]) rfl 12 (by decide) (h.hts (.fieldLink RX6 165 "BranchBetsModel" "first" "I") (lw_in 646 (by decide +kernel) rfl)) (fun _ h9 => h9) rfl hd (k H locs ls hP hS hl)
theorem gp6_165 (h : Ok l x X cc RX6 d)  {v : Int32} (hd : decode cc pc = .ok (.putfield 165, 3)) (k : G x X (pu σ (150) 12 v) L st (pc + 3)) : G x X σ L (.int v :: ra X (150) :: st) pc := fun H locs ls hP hS hl => va_put (D := X.1) (ci := 6) (v := .int v) (ty := .int) (C := RX6) (T := TX6) (N := 17) h.hx h.hb h.hts lw_x6 tyX6 tyX6_ok nmX6 h.ho h.hK hP (wl_D h.hA σ) hS (150) (by rw [wl_get (by decide), enc_150 X]) rfl 12 (by decide) (h.hts (.fieldLink RX6 165 "BranchBetsModel" "first" "I") (lw_in 646 (by decide +kernel) rfl)) (fun _ h9 => h9) rfl (by decide +kernel) rfl rfl (Nat.le_of_ble_eq_true rfl) hd (fun H1 locs1 hP1 hD1 hS1 => k H1 locs1 ls (by rw [wl_set (σ' := pu σ (150) 12 v) (by rw [enc_150 X]; simp [pu]) (fun k' hne => pu_ne k' hne) (fun _ _ => rfl)] at hP1; exact hP1) hS1 hl)
theorem gf6_168 (h : Ok l x X cc RX6 d)  (hd : decode cc pc = .ok (.getfield 168, 3)) (k : G x X σ L (.int (σ.1 (150) 13) :: st) (pc + 3)) : G x X σ L (ra X (150) :: st) pc := fun H locs ls hP hS hl => va_get (D := X.1) (ci := 6) (C := RX6) (T := TX6) (N := 17) h.hx h.hb h.hts lw_x6 h.ho h.hK hP (150) (by rw [wl_get (by decide), enc_150 X]) rfl 13 (by decide) (h.hts (.fieldLink RX6 168 "BranchBetsModel" "second" "I") (lw_in 647 (by decide +kernel) rfl)) (fun _ h9 => h9) rfl hd (k H locs ls hP hS hl)
theorem gp6_168 (h : Ok l x X cc RX6 d)  {v : Int32} (hd : decode cc pc = .ok (.putfield 168, 3)) (k : G x X (pu σ (150) 13 v) L st (pc + 3)) : G x X σ L (.int v :: ra X (150) :: st) pc := fun H locs ls hP hS hl => va_put (D := X.1) (ci := 6) (v := .int v) (ty := .int) (C := RX6) (T := TX6) (N := 17) h.hx h.hb h.hts lw_x6 tyX6 tyX6_ok nmX6 h.ho h.hK hP (wl_D h.hA σ) hS (150) (by rw [wl_get (by decide), enc_150 X]) rfl 13 (by decide) (h.hts (.fieldLink RX6 168 "BranchBetsModel" "second" "I") (lw_in 647 (by decide +kernel) rfl)) (fun _ h9 => h9) rfl (by decide +kernel) rfl rfl (Nat.le_of_ble_eq_true rfl) hd (fun H1 locs1 hP1 hD1 hS1 => k H1 locs1 ls (by rw [wl_set (σ' := pu σ (150) 13 v) (by rw [enc_150 X]; simp [pu]) (fun k' hne => pu_ne k' hne) (fun _ _ => rfl)] at hP1; exact hP1) hS1 hl)
theorem gf6_153 (h : Ok l x X cc RX6 d)  (hd : decode cc pc = .ok (.getfield 153, 3)) (k : G x X σ L (.int (σ.1 (150) 14) :: st) (pc + 3)) : G x X σ L (ra X (150) :: st) pc := fun H locs ls hP hS hl => va_get (D := X.1) (ci := 6) (C := RX6) (T := TX6) (N := 17) h.hx h.hb h.hts lw_x6 h.ho h.hK hP (150) (by rw [wl_get (by decide), enc_150 X]) rfl 14 (by decide) (h.hts (.fieldLink RX6 153 "BranchBetsModel" "behind" "I") (lw_in 648 (by decide +kernel) rfl)) (fun _ h9 => h9) rfl hd (k H locs ls hP hS hl)
theorem gp6_153 (h : Ok l x X cc RX6 d)  {v : Int32} (hd : decode cc pc = .ok (.putfield 153, 3)) (k : G x X (pu σ (150) 14 v) L st (pc + 3)) : G x X σ L (.int v :: ra X (150) :: st) pc := fun H locs ls hP hS hl => va_put (D := X.1) (ci := 6) (v := .int v) (ty := .int) (C := RX6) (T := TX6) (N := 17) h.hx h.hb h.hts lw_x6 tyX6 tyX6_ok nmX6 h.ho h.hK hP (wl_D h.hA σ) hS (150) (by rw [wl_get (by decide), enc_150 X]) rfl 14 (by decide) (h.hts (.fieldLink RX6 153 "BranchBetsModel" "behind" "I") (lw_in 648 (by decide +kernel) rfl)) (fun _ h9 => h9) rfl (by decide +kernel) rfl rfl (Nat.le_of_ble_eq_true rfl) hd (fun H1 locs1 hP1 hD1 hS1 => k H1 locs1 ls (by rw [wl_set (σ' := pu σ (150) 14 v) (by rw [enc_150 X]; simp [pu]) (fun k' hne => pu_ne k' hne) (fun _ _ => rfl)] at hP1; exact hP1) hS1 hl)
theorem gf6_175 (h : Ok l x X cc RX6 d)  (hd : decode cc pc = .ok (.getfield 175, 3)) (k : G x X σ L (.int (σ.1 (150) 15) :: st) (pc + 3)) : G x X σ L (ra X (150) :: st) pc := fun H locs ls hP hS hl => va_get (D := X.1) (ci := 6) (C := RX6) (T := TX6) (N := 17) h.hx h.hb h.hts lw_x6 h.ho h.hK hP (150) (by rw [wl_get (by decide), enc_150 X]) rfl 15 (by decide) (h.hts (.fieldLink RX6 175 "BranchBetsModel" "reason" "I") (lw_in 649 (by decide +kernel) rfl)) (fun _ h9 => h9) rfl hd (k H locs ls hP hS hl)
theorem gp6_175 (h : Ok l x X cc RX6 d)  {v : Int32} (hd : decode cc pc = .ok (.putfield 175, 3)) (k : G x X (pu σ (150) 15 v) L st (pc + 3)) : G x X σ L (.int v :: ra X (150) :: st) pc := fun H locs ls hP hS hl => va_put (D := X.1) (ci := 6) (v := .int v) (ty := .int) (C := RX6) (T := TX6) (N := 17) h.hx h.hb h.hts lw_x6 tyX6 tyX6_ok nmX6 h.ho h.hK hP (wl_D h.hA σ) hS (150) (by rw [wl_get (by decide), enc_150 X]) rfl 15 (by decide) (h.hts (.fieldLink RX6 175 "BranchBetsModel" "reason" "I") (lw_in 649 (by decide +kernel) rfl)) (fun _ h9 => h9) rfl (by decide +kernel) rfl rfl (Nat.le_of_ble_eq_true rfl) hd (fun H1 locs1 hP1 hD1 hS1 => k H1 locs1 ls (by rw [wl_set (σ' := pu σ (150) 15 v) (by rw [enc_150 X]; simp [pu]) (fun k' hne => pu_ne k' hne) (fun _ _ => rfl)] at hP1; exact hP1) hS1 hl)
theorem gf6_182 (h : Ok l x X cc RX6 d)  (hd : decode cc pc = .ok (.getfield 182, 3)) (k : G x X σ L (.int (σ.1 (150) 16) :: st) (pc + 3)) : G x X σ L (ra X (150) :: st) pc := fun H locs ls hP hS hl => va_get (D := X.1) (ci := 6) (C := RX6) (T := TX6) (N := 17) h.hx h.hb h.hts lw_x6 h.ho h.hK hP (150) (by rw [wl_get (by decide), enc_150 X]) rfl 16 (by decide) (h.hts (.fieldLink RX6 182 "BranchBetsModel" "cause" "I") (lw_in 650 (by decide +kernel) rfl)) (fun _ h9 => h9) rfl hd (k H locs ls hP hS hl)
theorem gp6_182 (h : Ok l x X cc RX6 d)  {v : Int32} (hd : decode cc pc = .ok (.putfield 182, 3)) (k : G x X (pu σ (150) 16 v) L st (pc + 3)) : G x X σ L (.int v :: ra X (150) :: st) pc := fun H locs ls hP hS hl => va_put (D := X.1) (ci := 6) (v := .int v) (ty := .int) (C := RX6) (T := TX6) (N := 17) h.hx h.hb h.hts lw_x6 tyX6 tyX6_ok nmX6 h.ho h.hK hP (wl_D h.hA σ) hS (150) (by rw [wl_get (by decide), enc_150 X]) rfl 16 (by decide) (h.hts (.fieldLink RX6 182 "BranchBetsModel" "cause" "I") (lw_in 650 (by decide +kernel) rfl)) (fun _ h9 => h9) rfl (by decide +kernel) rfl rfl (Nat.le_of_ble_eq_true rfl) hd (fun H1 locs1 hP1 hD1 hS1 => k H1 locs1 ls (by rw [wl_set (σ' := pu σ (150) 16 v) (by rw [enc_150 X]; simp [pu]) (fun k' hne => pu_ne k' hne) (fun _ _ => rfl)] at hP1; exact hP1) hS1 hl)
theorem clL_17 (h : Ok l x X cc RL d)  {av rest : List Value} {d' : Nat} {r : Int32} {σ' : fM} (hC : Ct l X yX6_set cX6_set 4 (some .int) d' (ra X (150) :: av) σ (some (.int r)) σ') (hn : av.length = 2) (hd : decode cc pc = .ok (.invokevirtual 17, 3)) (hst : st = av.reverse ++ ra X (150) :: rest) (hcat : (rest.map fun v => v.category).sum ≤ 8) (hdd : d' < d) (kk : G x X σ' L (.int r :: rest) (pc + 3)) : G x X σ L st pc := g_callV h (n := 2) (ci := 6) (gd_V (lw_in 686 (by decide +kernel) rfl) (lw_in 687 (by decide +kernel) rfl) (lw_in 688 (by decide +kernel) rfl) (lw_in 7 (by decide +kernel) rfl) (lw_in 689 (by decide +kernel) rfl)) (by decide +kernel) rfl rfl (by decide) (enc_150 X _ _) (by decide) hn hC hd hst hcat hdd kk
theorem cl6_73 (h : Ok l x X cc RX6 d) {av rest : List Value} {d' : Nat} {r : Int32} {σ' : fM} (hC : Ct l X yX6_isSetting cX6_isSetting 2 (some .boolean) d' av σ (some (.int r)) σ') (hn : av.length = 2) (hd : decode cc pc = .ok (.invokestatic 73, 3)) (hst : st = av.reverse ++ rest) (hcat : (rest.map fun v => v.category).sum ≤ 8) (hdd : d' < d) (kk : G x X σ' L (.int r :: rest) (pc + 3)) : G x X σ L st pc := g_callS h (n := 2) (gd_T (lw_in 692 (by decide +kernel) rfl)) (lw_in 690 (by decide +kernel) rfl) (lw_in 691 (by decide +kernel) rfl) (lw_in 7 (by decide +kernel) rfl) (by decide +kernel) (by decide) hn hC hd hst hcat hdd kk
theorem cl6_42 (h : Ok l x X cc RX6 d) {av rest : List Value} {d' : Nat} {r : Int32} {σ' : fM} (hC : Ct l X yX6_within cX6_within 3 (some .boolean) d' av σ (some (.int r)) σ') (hn : av.length = 3) (hd : decode cc pc = .ok (.invokestatic 42, 3)) (hst : st = av.reverse ++ rest) (hcat : (rest.map fun v => v.category).sum ≤ 8) (hdd : d' < d) (kk : G x X σ' L (.int r :: rest) (pc + 3)) : G x X σ L st pc := g_callS h (n := 3) (gd_T (lw_in 695 (by decide +kernel) rfl)) (lw_in 693 (by decide +kernel) rfl) (lw_in 694 (by decide +kernel) rfl) (lw_in 7 (by decide +kernel) rfl) (by decide +kernel) (by decide) hn hC hd hst hcat hdd kk
theorem cl6_78 (h : Ok l x X cc RX6 d)  {av rest : List Value} {d' : Nat} {σ' : fM} (hC : Ct l X yX6_record cX6_record 2 none d' (ra X (150) :: av) σ none σ') (hn : av.length = 0) (hd : decode cc pc = .ok (.invokevirtual 78, 3)) (hst : st = av.reverse ++ ra X (150) :: rest) (hcat : (rest.map fun v => v.category).sum ≤ 8) (hdd : d' < d) (kk : G x X σ' L (rest) (pc + 3)) : G x X σ L st pc := g_callV h (n := 0) (ci := 6) (gd_V (lw_in 697 (by decide +kernel) rfl) (lw_in 699 (by decide +kernel) rfl) (lw_sel 3 (by decide +kernel) rfl) (lw_in 7 (by decide +kernel) rfl) (lw_in 700 (by decide +kernel) rfl)) (by decide +kernel) rfl rfl (by decide) (enc_150 X _ _) (by decide) hn hC hd hst hcat hdd kk
theorem cl6_38 (h : Ok l x X cc RX6 d) {av rest : List Value} {d' : Nat} {σ' : fM} (hC : Ct l X yX6_copy cX6_copy 5 none d' av σ none σ') (hn : av.length = 4) (hd : decode cc pc = .ok (.invokestatic 38, 3)) (hst : st = av.reverse ++ rest) (hcat : (rest.map fun v => v.category).sum ≤ 8) (hdd : d' < d) (kk : G x X σ' L (rest) (pc + 3)) : G x X σ L st pc := g_callS h (n := 4) (gd_T (lw_in 703 (by decide +kernel) rfl)) (lw_in 701 (by decide +kernel) rfl) (lw_in 702 (by decide +kernel) rfl) (lw_in 7 (by decide +kernel) rfl) (by decide +kernel) (by decide) hn hC hd hst hcat hdd kk
theorem clL_22 (h : Ok l x X cc RL d)  {av rest : List Value} {d' : Nat} {r : Int32} {σ' : fM} (hC : Ct l X yX6_oracle cX6_oracle 7 (some .int) d' (ra X (150) :: av) σ (some (.int r)) σ') (hn : av.length = 3) (hd : decode cc pc = .ok (.invokevirtual 22, 3)) (hst : st = av.reverse ++ ra X (150) :: rest) (hcat : (rest.map fun v => v.category).sum ≤ 8) (hdd : d' < d) (kk : G x X σ' L (.int r :: rest) (pc + 3)) : G x X σ L st pc := g_callV h (n := 3) (ci := 6) (gd_V (lw_in 704 (by decide +kernel) rfl) (lw_in 705 (by decide +kernel) rfl) (lw_in 706 (by decide +kernel) rfl) (lw_in 7 (by decide +kernel) rfl) (lw_in 707 (by decide +kernel) rfl)) (by decide +kernel) rfl rfl (by decide) (enc_150 X _ _) (by decide) hn hC hd hst hcat hdd kk
theorem cl6_82 (h : Ok l x X cc RX6 d)  {av rest : List Value} {d' : Nat} {σ' : fM} (hC : Ct l X yX6_setPart cX6_setPart 4 none d' (ra X (150) :: av) σ none σ') (hn : av.length = 3) (hd : decode cc pc = .ok (.invokevirtual 82, 3)) (hst : st = av.reverse ++ ra X (150) :: rest) (hcat : (rest.map fun v => v.category).sum ≤ 8) (hdd : d' < d) (kk : G x X σ' L (rest) (pc + 3)) : G x X σ L st pc := g_callV h (n := 3) (ci := 6) (gd_V (lw_in 709 (by decide +kernel) rfl) (lw_in 711 (by decide +kernel) rfl) (lw_sel 4 (by decide +kernel) rfl) (lw_in 7 (by decide +kernel) rfl) (lw_in 712 (by decide +kernel) rfl)) (by decide +kernel) rfl rfl (by decide) (enc_150 X _ _) (by decide) hn hC hd hst hcat hdd kk
theorem clL_26 (h : Ok l x X cc RL d)  {av rest : List Value} {d' : Nat} {r : Int32} {σ' : fM} (hC : Ct l X yX6_seat cX6_seat 6 (some .int) d' (ra X (150) :: av) σ (some (.int r)) σ') (hn : av.length = 2) (hd : decode cc pc = .ok (.invokevirtual 26, 3)) (hst : st = av.reverse ++ ra X (150) :: rest) (hcat : (rest.map fun v => v.category).sum ≤ 8) (hdd : d' < d) (kk : G x X σ' L (.int r :: rest) (pc + 3)) : G x X σ L st pc := g_callV h (n := 2) (ci := 6) (gd_V (lw_in 713 (by decide +kernel) rfl) (lw_in 714 (by decide +kernel) rfl) (lw_in 715 (by decide +kernel) rfl) (lw_in 7 (by decide +kernel) rfl) (lw_in 716 (by decide +kernel) rfl)) (by decide +kernel) rfl rfl (by decide) (enc_150 X _ _) (by decide) hn hC hd hst hcat hdd kk
theorem cl6_86 (h : Ok l x X cc RX6 d)  {av rest : List Value} {d' : Nat} {r : Int32} {σ' : fM} (hC : Ct l X yX6_isOracle cX6_isOracle 2 (some .boolean) d' (ra X (150) :: av) σ (some (.int r)) σ') (hn : av.length = 1) (hd : decode cc pc = .ok (.invokevirtual 86, 3)) (hst : st = av.reverse ++ ra X (150) :: rest) (hcat : (rest.map fun v => v.category).sum ≤ 8) (hdd : d' < d) (kk : G x X σ' L (.int r :: rest) (pc + 3)) : G x X σ L st pc := g_callV h (n := 1) (ci := 6) (gd_V (lw_in 717 (by decide +kernel) rfl) (lw_in 719 (by decide +kernel) rfl) (lw_sel 5 (by decide +kernel) rfl) (lw_in 7 (by decide +kernel) rfl) (lw_in 720 (by decide +kernel) rfl)) (by decide +kernel) rfl rfl (by decide) (enc_150 X _ _) (by decide) hn hC hd hst hcat hdd kk
theorem cl6_46 (h : Ok l x X cc RX6 d)  {av rest : List Value} {d' : Nat} {r : Int32} {σ' : fM} (hC : Ct l X yX6_part cX6_part 3 (some .int) d' (ra X (150) :: av) σ (some (.int r)) σ') (hn : av.length = 2) (hd : decode cc pc = .ok (.invokevirtual 46, 3)) (hst : st = av.reverse ++ ra X (150) :: rest) (hcat : (rest.map fun v => v.category).sum ≤ 8) (hdd : d' < d) (kk : G x X σ' L (.int r :: rest) (pc + 3)) : G x X σ L st pc := g_callV h (n := 2) (ci := 6) (gd_V (lw_in 721 (by decide +kernel) rfl) (lw_in 723 (by decide +kernel) rfl) (lw_sel 6 (by decide +kernel) rfl) (lw_in 7 (by decide +kernel) rfl) (lw_in 724 (by decide +kernel) rfl)) (by decide +kernel) rfl rfl (by decide) (enc_150 X _ _) (by decide) hn hC hd hst hcat hdd kk
theorem cl6_50 (h : Ok l x X cc RX6 d)  {av rest : List Value} {d' : Nat} {r : Int32} {σ' : fM} (hC : Ct l X yX6_hasTable cX6_hasTable 2 (some .boolean) d' (ra X (150) :: av) σ (some (.int r)) σ') (hn : av.length = 1) (hd : decode cc pc = .ok (.invokevirtual 50, 3)) (hst : st = av.reverse ++ ra X (150) :: rest) (hcat : (rest.map fun v => v.category).sum ≤ 8) (hdd : d' < d) (kk : G x X σ' L (.int r :: rest) (pc + 3)) : G x X σ L st pc := g_callV h (n := 1) (ci := 6) (gd_V (lw_in 725 (by decide +kernel) rfl) (lw_in 727 (by decide +kernel) rfl) (lw_sel 7 (by decide +kernel) rfl) (lw_in 7 (by decide +kernel) rfl) (lw_in 728 (by decide +kernel) rfl)) (by decide +kernel) rfl rfl (by decide) (enc_150 X _ _) (by decide) hn hC hd hst hcat hdd kk
theorem cl6_61 (h : Ok l x X cc RX6 d)  {av rest : List Value} {d' : Nat} {r : Int32} {σ' : fM} (hC : Ct l X yX6_hasSeat cX6_hasSeat 2 (some .boolean) d' (ra X (150) :: av) σ (some (.int r)) σ') (hn : av.length = 1) (hd : decode cc pc = .ok (.invokevirtual 61, 3)) (hst : st = av.reverse ++ ra X (150) :: rest) (hcat : (rest.map fun v => v.category).sum ≤ 8) (hdd : d' < d) (kk : G x X σ' L (.int r :: rest) (pc + 3)) : G x X σ L st pc := g_callV h (n := 1) (ci := 6) (gd_V (lw_in 729 (by decide +kernel) rfl) (lw_in 731 (by decide +kernel) rfl) (lw_sel 8 (by decide +kernel) rfl) (lw_in 7 (by decide +kernel) rfl) (lw_in 732 (by decide +kernel) rfl)) (by decide +kernel) rfl rfl (by decide) (enc_150 X _ _) (by decide) hn hC hd hst hcat hdd kk
theorem cl6_90 (h : Ok l x X cc RX6 d)  {av rest : List Value} {d' : Nat} {r : Int32} {σ' : fM} (hC : Ct l X yX6_sitting cX6_sitting 4 (some .int) d' (ra X (150) :: av) σ (some (.int r)) σ') (hn : av.length = 1) (hd : decode cc pc = .ok (.invokevirtual 90, 3)) (hst : st = av.reverse ++ ra X (150) :: rest) (hcat : (rest.map fun v => v.category).sum ≤ 8) (hdd : d' < d) (kk : G x X σ' L (.int r :: rest) (pc + 3)) : G x X σ L st pc := g_callV h (n := 1) (ci := 6) (gd_V (lw_in 734 (by decide +kernel) rfl) (lw_in 736 (by decide +kernel) rfl) (lw_sel 9 (by decide +kernel) rfl) (lw_in 7 (by decide +kernel) rfl) (lw_in 737 (by decide +kernel) rfl)) (by decide +kernel) rfl rfl (by decide) (enc_150 X _ _) (by decide) hn hC hd hst hcat hdd kk
theorem clL_31 (h : Ok l x X cc RL d)  {av rest : List Value} {d' : Nat} {r : Int32} {σ' : fM} (hC : Ct l X yX6_stand cX6_stand 3 (some .int) d' (ra X (150) :: av) σ (some (.int r)) σ') (hn : av.length = 1) (hd : decode cc pc = .ok (.invokevirtual 31, 3)) (hst : st = av.reverse ++ ra X (150) :: rest) (hcat : (rest.map fun v => v.category).sum ≤ 8) (hdd : d' < d) (kk : G x X σ' L (.int r :: rest) (pc + 3)) : G x X σ L st pc := g_callV h (n := 1) (ci := 6) (gd_V (lw_in 738 (by decide +kernel) rfl) (lw_in 739 (by decide +kernel) rfl) (lw_in 740 (by decide +kernel) rfl) (lw_in 7 (by decide +kernel) rfl) (lw_in 741 (by decide +kernel) rfl)) (by decide +kernel) rfl rfl (by decide) (enc_150 X _ _) (by decide) hn hC hd hst hcat hdd kk
theorem clL_35 (h : Ok l x X cc RL d)  {av rest : List Value} {d' : Nat} {r : Int32} {σ' : fM} (hC : Ct l X yX6_give cX6_give 3 (some .int) d' (ra X (150) :: av) σ (some (.int r)) σ') (hn : av.length = 2) (hd : decode cc pc = .ok (.invokevirtual 35, 3)) (hst : st = av.reverse ++ ra X (150) :: rest) (hcat : (rest.map fun v => v.category).sum ≤ 8) (hdd : d' < d) (kk : G x X σ' L (.int r :: rest) (pc + 3)) : G x X σ L st pc := g_callV h (n := 2) (ci := 6) (gd_V (lw_in 742 (by decide +kernel) rfl) (lw_in 743 (by decide +kernel) rfl) (lw_in 744 (by decide +kernel) rfl) (lw_in 7 (by decide +kernel) rfl) (lw_in 745 (by decide +kernel) rfl)) (by decide +kernel) rfl rfl (by decide) (enc_150 X _ _) (by decide) hn hC hd hst hcat hdd kk
theorem cl6_94 (h : Ok l x X cc RX6 d)  {av rest : List Value} {d' : Nat} {σ' : fM} (hC : Ct l X yX6_addPart cX6_addPart 4 none d' (ra X (150) :: av) σ none σ') (hn : av.length = 3) (hd : decode cc pc = .ok (.invokevirtual 94, 3)) (hst : st = av.reverse ++ ra X (150) :: rest) (hcat : (rest.map fun v => v.category).sum ≤ 8) (hdd : d' < d) (kk : G x X σ' L (rest) (pc + 3)) : G x X σ L st pc := g_callV h (n := 3) (ci := 6) (gd_V (lw_in 747 (by decide +kernel) rfl) (lw_in 749 (by decide +kernel) rfl) (lw_sel 10 (by decide +kernel) rfl) (lw_in 7 (by decide +kernel) rfl) (lw_in 750 (by decide +kernel) rfl)) (by decide +kernel) rfl rfl (by decide) (enc_150 X _ _) (by decide) hn hC hd hst hcat hdd kk
theorem clL_39 (h : Ok l x X cc RL d)  {av rest : List Value} {d' : Nat} {r : Int32} {σ' : fM} (hC : Ct l X yX6_lend cX6_lend 5 (some .int) d' (ra X (150) :: av) σ (some (.int r)) σ') (hn : av.length = 3) (hd : decode cc pc = .ok (.invokevirtual 39, 3)) (hst : st = av.reverse ++ ra X (150) :: rest) (hcat : (rest.map fun v => v.category).sum ≤ 8) (hdd : d' < d) (kk : G x X σ' L (.int r :: rest) (pc + 3)) : G x X σ L st pc := g_callV h (n := 3) (ci := 6) (gd_V (lw_in 751 (by decide +kernel) rfl) (lw_in 752 (by decide +kernel) rfl) (lw_in 753 (by decide +kernel) rfl) (lw_in 7 (by decide +kernel) rfl) (lw_in 754 (by decide +kernel) rfl)) (by decide +kernel) rfl rfl (by decide) (enc_150 X _ _) (by decide) hn hC hd hst hcat hdd kk
theorem clL_43 (h : Ok l x X cc RL d)  {av rest : List Value} {d' : Nat} {r : Int32} {σ' : fM} (hC : Ct l X yX6_branch cX6_branch 3 (some .int) d' (ra X (150) :: av) σ (some (.int r)) σ') (hn : av.length = 2) (hd : decode cc pc = .ok (.invokevirtual 43, 3)) (hst : st = av.reverse ++ ra X (150) :: rest) (hcat : (rest.map fun v => v.category).sum ≤ 8) (hdd : d' < d) (kk : G x X σ' L (.int r :: rest) (pc + 3)) : G x X σ L st pc := g_callV h (n := 2) (ci := 6) (gd_V (lw_in 755 (by decide +kernel) rfl) (lw_in 756 (by decide +kernel) rfl) (lw_in 757 (by decide +kernel) rfl) (lw_in 7 (by decide +kernel) rfl) (lw_in 758 (by decide +kernel) rfl)) (by decide +kernel) rfl rfl (by decide) (enc_150 X _ _) (by decide) hn hC hd hst hcat hdd kk
theorem cl6_117 (h : Ok l x X cc RX6 d) {av rest : List Value} {d' : Nat} {r : Int32} {σ' : fM} (hC : Ct l X yX6_isAddress cX6_isAddress 1 (some .boolean) d' av σ (some (.int r)) σ') (hn : av.length = 1) (hd : decode cc pc = .ok (.invokestatic 117, 3)) (hst : st = av.reverse ++ rest) (hcat : (rest.map fun v => v.category).sum ≤ 8) (hdd : d' < d) (kk : G x X σ' L (.int r :: rest) (pc + 3)) : G x X σ L st pc := g_callS h (n := 1) (gd_T (lw_in 761 (by decide +kernel) rfl)) (lw_in 759 (by decide +kernel) rfl) (lw_in 760 (by decide +kernel) rfl) (lw_in 7 (by decide +kernel) rfl) (by decide +kernel) (by decide) hn hC hd hst hcat hdd kk
theorem cl6_120 (h : Ok l x X cc RX6 d) {av rest : List Value} {d' : Nat} {r : Int32} {σ' : fM} (hC : Ct l X yX6_isTaken cX6_isTaken 1 (some .boolean) d' av σ (some (.int r)) σ') (hn : av.length = 1) (hd : decode cc pc = .ok (.invokestatic 120, 3)) (hst : st = av.reverse ++ rest) (hcat : (rest.map fun v => v.category).sum ≤ 8) (hdd : d' < d) (kk : G x X σ' L (.int r :: rest) (pc + 3)) : G x X σ L st pc := g_callS h (n := 1) (gd_T (lw_in 764 (by decide +kernel) rfl)) (lw_in 762 (by decide +kernel) rfl) (lw_in 763 (by decide +kernel) rfl) (lw_in 7 (by decide +kernel) rfl) (by decide +kernel) (by decide) hn hC hd hst hcat hdd kk
theorem cl6_123 (h : Ok l x X cc RX6 d)  {av rest : List Value} {d' : Nat} {r : Int32} {σ' : fM} (hC : Ct l X yX6_comes cX6_comes 6 (some .int) d' (ra X (150) :: av) σ (some (.int r)) σ') (hn : av.length = 2) (hd : decode cc pc = .ok (.invokevirtual 123, 3)) (hst : st = av.reverse ++ ra X (150) :: rest) (hcat : (rest.map fun v => v.category).sum ≤ 8) (hdd : d' < d) (kk : G x X σ' L (.int r :: rest) (pc + 3)) : G x X σ L st pc := g_callV h (n := 2) (ci := 6) (gd_V (lw_in 765 (by decide +kernel) rfl) (lw_in 767 (by decide +kernel) rfl) (lw_sel 11 (by decide +kernel) rfl) (lw_in 7 (by decide +kernel) rfl) (lw_in 768 (by decide +kernel) rfl)) (by decide +kernel) rfl rfl (by decide) (enc_150 X _ _) (by decide) hn hC hd hst hcat hdd kk
theorem cl6_70 (h : Ok l x X cc RX6 d)  {av rest : List Value} {d' : Nat} {r : Int32} {σ' : fM} (hC : Ct l X yX6_isIn cX6_isIn 2 (some .boolean) d' (ra X (150) :: av) σ (some (.int r)) σ') (hn : av.length = 1) (hd : decode cc pc = .ok (.invokevirtual 70, 3)) (hst : st = av.reverse ++ ra X (150) :: rest) (hcat : (rest.map fun v => v.category).sum ≤ 8) (hdd : d' < d) (kk : G x X σ' L (.int r :: rest) (pc + 3)) : G x X σ L st pc := g_callV h (n := 1) (ci := 6) (gd_V (lw_in 769 (by decide +kernel) rfl) (lw_in 771 (by decide +kernel) rfl) (lw_sel 12 (by decide +kernel) rfl) (lw_in 7 (by decide +kernel) rfl) (lw_in 772 (by decide +kernel) rfl)) (by decide +kernel) rfl rfl (by decide) (enc_150 X _ _) (by decide) hn hC hd hst hcat hdd kk
theorem cl6_104 (h : Ok l x X cc RX6 d)  {av rest : List Value} {d' : Nat} {r : Int32} {σ' : fM} (hC : Ct l X yX6_wordOf cX6_wordOf 5 (some .int) d' (ra X (150) :: av) σ (some (.int r)) σ') (hn : av.length = 2) (hd : decode cc pc = .ok (.invokevirtual 104, 3)) (hst : st = av.reverse ++ ra X (150) :: rest) (hcat : (rest.map fun v => v.category).sum ≤ 8) (hdd : d' < d) (kk : G x X σ' L (.int r :: rest) (pc + 3)) : G x X σ L st pc := g_callV h (n := 2) (ci := 6) (gd_V (lw_in 773 (by decide +kernel) rfl) (lw_in 775 (by decide +kernel) rfl) (lw_sel 13 (by decide +kernel) rfl) (lw_in 7 (by decide +kernel) rfl) (lw_in 776 (by decide +kernel) rfl)) (by decide +kernel) rfl rfl (by decide) (enc_150 X _ _) (by decide) hn hC hd hst hcat hdd kk
theorem cl6_67 (h : Ok l x X cc RX6 d)  {av rest : List Value} {d' : Nat} {r : Int32} {σ' : fM} (hC : Ct l X yX6_plainWord cX6_plainWord 3 (some .int) d' (ra X (150) :: av) σ (some (.int r)) σ') (hn : av.length = 2) (hd : decode cc pc = .ok (.invokevirtual 67, 3)) (hst : st = av.reverse ++ ra X (150) :: rest) (hcat : (rest.map fun v => v.category).sum ≤ 8) (hdd : d' < d) (kk : G x X σ' L (.int r :: rest) (pc + 3)) : G x X σ L st pc := g_callV h (n := 2) (ci := 6) (gd_V (lw_in 777 (by decide +kernel) rfl) (lw_in 779 (by decide +kernel) rfl) (lw_sel 14 (by decide +kernel) rfl) (lw_in 7 (by decide +kernel) rfl) (lw_in 780 (by decide +kernel) rfl)) (by decide +kernel) rfl rfl (by decide) (enc_150 X _ _) (by decide) hn hC hd hst hcat hdd kk
theorem cl6_64 (h : Ok l x X cc RX6 d)  {av rest : List Value} {d' : Nat} {r : Int32} {σ' : fM} (hC : Ct l X yX6_counterOf cX6_counterOf 3 (some .int) d' (ra X (150) :: av) σ (some (.int r)) σ') (hn : av.length = 2) (hd : decode cc pc = .ok (.invokevirtual 64, 3)) (hst : st = av.reverse ++ ra X (150) :: rest) (hcat : (rest.map fun v => v.category).sum ≤ 8) (hdd : d' < d) (kk : G x X σ' L (.int r :: rest) (pc + 3)) : G x X σ L st pc := g_callV h (n := 2) (ci := 6) (gd_V (lw_in 781 (by decide +kernel) rfl) (lw_in 783 (by decide +kernel) rfl) (lw_sel 15 (by decide +kernel) rfl) (lw_in 7 (by decide +kernel) rfl) (lw_in 784 (by decide +kernel) rfl)) (by decide +kernel) rfl rfl (by decide) (enc_150 X _ _) (by decide) hn hC hd hst hcat hdd kk
theorem cl6_58 (h : Ok l x X cc RX6 d)  {av rest : List Value} {d' : Nat} {r : Int32} {σ' : fM} (hC : Ct l X yX6_indexOf cX6_indexOf 5 (some .int) d' (ra X (150) :: av) σ (some (.int r)) σ') (hn : av.length = 2) (hd : decode cc pc = .ok (.invokevirtual 58, 3)) (hst : st = av.reverse ++ ra X (150) :: rest) (hcat : (rest.map fun v => v.category).sum ≤ 8) (hdd : d' < d) (kk : G x X σ' L (.int r :: rest) (pc + 3)) : G x X σ L st pc := g_callV h (n := 2) (ci := 6) (gd_V (lw_in 785 (by decide +kernel) rfl) (lw_in 787 (by decide +kernel) rfl) (lw_sel 16 (by decide +kernel) rfl) (lw_in 7 (by decide +kernel) rfl) (lw_in 788 (by decide +kernel) rfl)) (by decide +kernel) rfl rfl (by decide) (enc_150 X _ _) (by decide) hn hC hd hst hcat hdd kk
theorem cl6_54 (h : Ok l x X cc RX6 d)  {av rest : List Value} {d' : Nat} {r : Int32} {σ' : fM} (hC : Ct l X yX6_sizeOf cX6_sizeOf 2 (some .int) d' (ra X (150) :: av) σ (some (.int r)) σ') (hn : av.length = 1) (hd : decode cc pc = .ok (.invokevirtual 54, 3)) (hst : st = av.reverse ++ ra X (150) :: rest) (hcat : (rest.map fun v => v.category).sum ≤ 8) (hdd : d' < d) (kk : G x X σ' L (.int r :: rest) (pc + 3)) : G x X σ L st pc := g_callV h (n := 1) (ci := 6) (gd_V (lw_in 789 (by decide +kernel) rfl) (lw_in 791 (by decide +kernel) rfl) (lw_sel 17 (by decide +kernel) rfl) (lw_in 7 (by decide +kernel) rfl) (lw_in 792 (by decide +kernel) rfl)) (by decide +kernel) rfl rfl (by decide) (enc_150 X _ _) (by decide) hn hC hd hst hcat hdd kk
theorem cl6_107 (h : Ok l x X cc RX6 d)  {av rest : List Value} {d' : Nat} {r : Int32} {σ' : fM} (hC : Ct l X yX6_stakeOf cX6_stakeOf 5 (some .int) d' (ra X (150) :: av) σ (some (.int r)) σ') (hn : av.length = 2) (hd : decode cc pc = .ok (.invokevirtual 107, 3)) (hst : st = av.reverse ++ ra X (150) :: rest) (hcat : (rest.map fun v => v.category).sum ≤ 8) (hdd : d' < d) (kk : G x X σ' L (.int r :: rest) (pc + 3)) : G x X σ L st pc := g_callV h (n := 2) (ci := 6) (gd_V (lw_in 793 (by decide +kernel) rfl) (lw_in 795 (by decide +kernel) rfl) (lw_sel 18 (by decide +kernel) rfl) (lw_in 7 (by decide +kernel) rfl) (lw_in 796 (by decide +kernel) rfl)) (by decide +kernel) rfl rfl (by decide) (enc_150 X _ _) (by decide) hn hC hd hst hcat hdd kk
theorem cl6_110 (h : Ok l x X cc RX6 d)  {av rest : List Value} {d' : Nat} {r : Int32} {σ' : fM} (hC : Ct l X yX6_bets cX6_bets 8 (some .int) d' (ra X (150) :: av) σ (some (.int r)) σ') (hn : av.length = 1) (hd : decode cc pc = .ok (.invokevirtual 110, 3)) (hst : st = av.reverse ++ ra X (150) :: rest) (hcat : (rest.map fun v => v.category).sum ≤ 8) (hdd : d' < d) (kk : G x X σ' L (.int r :: rest) (pc + 3)) : G x X σ L st pc := g_callV h (n := 1) (ci := 6) (gd_V (lw_in 797 (by decide +kernel) rfl) (lw_in 799 (by decide +kernel) rfl) (lw_sel 19 (by decide +kernel) rfl) (lw_in 7 (by decide +kernel) rfl) (lw_in 800 (by decide +kernel) rfl)) (by decide +kernel) rfl rfl (by decide) (enc_150 X _ _) (by decide) hn hC hd hst hcat hdd kk
theorem cl6_100 (h : Ok l x X cc RX6 d)  {av rest : List Value} {d' : Nat} {σ' : fM} (hC : Ct l X yX6_paysBack cX6_paysBack 8 none d' (ra X (150) :: av) σ none σ') (hn : av.length = 2) (hd : decode cc pc = .ok (.invokevirtual 100, 3)) (hst : st = av.reverse ++ ra X (150) :: rest) (hcat : (rest.map fun v => v.category).sum ≤ 8) (hdd : d' < d) (kk : G x X σ' L (rest) (pc + 3)) : G x X σ L st pc := g_callV h (n := 2) (ci := 6) (gd_V (lw_in 801 (by decide +kernel) rfl) (lw_in 803 (by decide +kernel) rfl) (lw_sel 20 (by decide +kernel) rfl) (lw_in 7 (by decide +kernel) rfl) (lw_in 804 (by decide +kernel) rfl)) (by decide +kernel) rfl rfl (by decide) (enc_150 X _ _) (by decide) hn hC hd hst hcat hdd kk
theorem cl6_97 (h : Ok l x X cc RX6 d)  {av rest : List Value} {d' : Nat} {r : Int32} {σ' : fM} (hC : Ct l X yX6_loanPart cX6_loanPart 3 (some .int) d' (ra X (150) :: av) σ (some (.int r)) σ') (hn : av.length = 2) (hd : decode cc pc = .ok (.invokevirtual 97, 3)) (hst : st = av.reverse ++ ra X (150) :: rest) (hcat : (rest.map fun v => v.category).sum ≤ 8) (hdd : d' < d) (kk : G x X σ' L (.int r :: rest) (pc + 3)) : G x X σ L st pc := g_callV h (n := 2) (ci := 6) (gd_V (lw_in 805 (by decide +kernel) rfl) (lw_in 807 (by decide +kernel) rfl) (lw_sel 21 (by decide +kernel) rfl) (lw_in 7 (by decide +kernel) rfl) (lw_in 808 (by decide +kernel) rfl)) (by decide +kernel) rfl rfl (by decide) (enc_150 X _ _) (by decide) hn hC hd hst hcat hdd kk
theorem cl6_114 (h : Ok l x X cc RX6 d)  {av rest : List Value} {d' : Nat} {σ' : fM} (hC : Ct l X yX6_learns cX6_learns 6 none d' (ra X (150) :: av) σ none σ') (hn : av.length = 3) (hd : decode cc pc = .ok (.invokevirtual 114, 3)) (hst : st = av.reverse ++ ra X (150) :: rest) (hcat : (rest.map fun v => v.category).sum ≤ 8) (hdd : d' < d) (kk : G x X σ' L (rest) (pc + 3)) : G x X σ L st pc := g_callV h (n := 3) (ci := 6) (gd_V (lw_in 810 (by decide +kernel) rfl) (lw_in 812 (by decide +kernel) rfl) (lw_sel 22 (by decide +kernel) rfl) (lw_in 7 (by decide +kernel) rfl) (lw_in 813 (by decide +kernel) rfl)) (by decide +kernel) rfl rfl (by decide) (enc_150 X _ _) (by decide) hn hC hd hst hcat hdd kk
theorem clL_47 (h : Ok l x X cc RL d)  {av rest : List Value} {d' : Nat} {r : Int32} {σ' : fM} (hC : Ct l X yX6_oracleOf cX6_oracleOf 3 (some .int) d' (ra X (150) :: av) σ (some (.int r)) σ') (hn : av.length = 2) (hd : decode cc pc = .ok (.invokevirtual 47, 3)) (hst : st = av.reverse ++ ra X (150) :: rest) (hcat : (rest.map fun v => v.category).sum ≤ 8) (hdd : d' < d) (kk : G x X σ' L (.int r :: rest) (pc + 3)) : G x X σ L st pc := g_callV h (n := 2) (ci := 6) (gd_V (lw_in 814 (by decide +kernel) rfl) (lw_in 815 (by decide +kernel) rfl) (lw_in 816 (by decide +kernel) rfl) (lw_in 7 (by decide +kernel) rfl) (lw_in 817 (by decide +kernel) rfl)) (by decide +kernel) rfl rfl (by decide) (enc_150 X _ _) (by decide) hn hC hd hst hcat hdd kk
theorem cl6_126 (h : Ok l x X cc RX6 d)  {av rest : List Value} {d' : Nat} {r : Int32} {σ' : fM} (hC : Ct l X yX6_owes cX6_owes 5 (some .int) d' (ra X (150) :: av) σ (some (.int r)) σ') (hn : av.length = 2) (hd : decode cc pc = .ok (.invokevirtual 126, 3)) (hst : st = av.reverse ++ ra X (150) :: rest) (hcat : (rest.map fun v => v.category).sum ≤ 8) (hdd : d' < d) (kk : G x X σ' L (.int r :: rest) (pc + 3)) : G x X σ L st pc := g_callV h (n := 2) (ci := 6) (gd_V (lw_in 818 (by decide +kernel) rfl) (lw_in 820 (by decide +kernel) rfl) (lw_sel 23 (by decide +kernel) rfl) (lw_in 7 (by decide +kernel) rfl) (lw_in 821 (by decide +kernel) rfl)) (by decide +kernel) rfl rfl (by decide) (enc_150 X _ _) (by decide) hn hC hd hst hcat hdd kk
theorem clL_51 (h : Ok l x X cc RL d)  {av rest : List Value} {d' : Nat} {r : Int32} {σ' : fM} (hC : Ct l X yX6_counter cX6_counter 3 (some .int) d' (ra X (150) :: av) σ (some (.int r)) σ') (hn : av.length = 2) (hd : decode cc pc = .ok (.invokevirtual 51, 3)) (hst : st = av.reverse ++ ra X (150) :: rest) (hcat : (rest.map fun v => v.category).sum ≤ 8) (hdd : d' < d) (kk : G x X σ' L (.int r :: rest) (pc + 3)) : G x X σ L st pc := g_callV h (n := 2) (ci := 6) (gd_V (lw_in 823 (by decide +kernel) rfl) (lw_in 824 (by decide +kernel) rfl) (lw_in 825 (by decide +kernel) rfl) (lw_in 7 (by decide +kernel) rfl) (lw_in 826 (by decide +kernel) rfl)) (by decide +kernel) rfl rfl (by decide) (enc_150 X _ _) (by decide) hn hC hd hst hcat hdd kk
theorem clL_55 (h : Ok l x X cc RL d)  {av rest : List Value} {d' : Nat} {r : Int32} {σ' : fM} (hC : Ct l X yX6_loanOf cX6_loanOf 3 (some .int) d' (ra X (150) :: av) σ (some (.int r)) σ') (hn : av.length = 2) (hd : decode cc pc = .ok (.invokevirtual 55, 3)) (hst : st = av.reverse ++ ra X (150) :: rest) (hcat : (rest.map fun v => v.category).sum ≤ 8) (hdd : d' < d) (kk : G x X σ' L (.int r :: rest) (pc + 3)) : G x X σ L st pc := g_callV h (n := 2) (ci := 6) (gd_V (lw_in 827 (by decide +kernel) rfl) (lw_in 828 (by decide +kernel) rfl) (lw_in 829 (by decide +kernel) rfl) (lw_in 7 (by decide +kernel) rfl) (lw_in 830 (by decide +kernel) rfl)) (by decide +kernel) rfl rfl (by decide) (enc_150 X _ _) (by decide) hn hC hd hst hcat hdd kk
theorem clL_59 (h : Ok l x X cc RL d)  {av rest : List Value} {d' : Nat} {r : Int32} {σ' : fM} (hC : Ct l X yX6_aliases cX6_aliases 5 (some .int) d' (ra X (150) :: av) σ (some (.int r)) σ') (hn : av.length = 2) (hd : decode cc pc = .ok (.invokevirtual 59, 3)) (hst : st = av.reverse ++ ra X (150) :: rest) (hcat : (rest.map fun v => v.category).sum ≤ 8) (hdd : d' < d) (kk : G x X σ' L (.int r :: rest) (pc + 3)) : G x X σ L st pc := g_callV h (n := 2) (ci := 6) (gd_V (lw_in 831 (by decide +kernel) rfl) (lw_in 832 (by decide +kernel) rfl) (lw_in 833 (by decide +kernel) rfl) (lw_in 7 (by decide +kernel) rfl) (lw_in 834 (by decide +kernel) rfl)) (by decide +kernel) rfl rfl (by decide) (enc_150 X _ _) (by decide) hn hC hd hst hcat hdd kk
theorem clL_63 (h : Ok l x X cc RL d)  {av rest : List Value} {d' : Nat} {r : Int32} {σ' : fM} (hC : Ct l X yX6_share cX6_share 3 (some .int) d' (ra X (150) :: av) σ (some (.int r)) σ') (hn : av.length = 1) (hd : decode cc pc = .ok (.invokevirtual 63, 3)) (hst : st = av.reverse ++ ra X (150) :: rest) (hcat : (rest.map fun v => v.category).sum ≤ 8) (hdd : d' < d) (kk : G x X σ' L (.int r :: rest) (pc + 3)) : G x X σ L st pc := g_callV h (n := 1) (ci := 6) (gd_V (lw_in 835 (by decide +kernel) rfl) (lw_in 836 (by decide +kernel) rfl) (lw_in 837 (by decide +kernel) rfl) (lw_in 7 (by decide +kernel) rfl) (lw_in 838 (by decide +kernel) rfl)) (by decide +kernel) rfl rfl (by decide) (enc_150 X _ _) (by decide) hn hC hd hst hcat hdd kk
theorem cl6_134 (h : Ok l x X cc RX6 d) {av rest : List Value} {d' : Nat} {r : Int32} {σ' : fM} (hC : Ct l X yX6_floatBits cX6_floatBits 9 (some .int) d' av σ (some (.int r)) σ') (hn : av.length = 2) (hd : decode cc pc = .ok (.invokestatic 134, 3)) (hst : st = av.reverse ++ rest) (hcat : (rest.map fun v => v.category).sum ≤ 8) (hdd : d' < d) (kk : G x X σ' L (.int r :: rest) (pc + 3)) : G x X σ L st pc := g_callS h (n := 2) (gd_T (lw_in 841 (by decide +kernel) rfl)) (lw_in 839 (by decide +kernel) rfl) (lw_in 840 (by decide +kernel) rfl) (lw_in 7 (by decide +kernel) rfl) (by decide +kernel) (by decide) hn hC hd hst hcat hdd kk
theorem clL_67 (h : Ok l x X cc RL d)  {av rest : List Value} {d' : Nat} {r : Int32} {σ' : fM} (hC : Ct l X yX6_rich cX6_rich 4 (some .int) d' (ra X (150) :: av) σ (some (.int r)) σ') (hn : av.length = 1) (hd : decode cc pc = .ok (.invokevirtual 67, 3)) (hst : st = av.reverse ++ ra X (150) :: rest) (hcat : (rest.map fun v => v.category).sum ≤ 8) (hdd : d' < d) (kk : G x X σ' L (.int r :: rest) (pc + 3)) : G x X σ L st pc := g_callV h (n := 1) (ci := 6) (gd_V (lw_in 844 (by decide +kernel) rfl) (lw_in 845 (by decide +kernel) rfl) (lw_in 846 (by decide +kernel) rfl) (lw_in 7 (by decide +kernel) rfl) (lw_in 847 (by decide +kernel) rfl)) (by decide +kernel) rfl rfl (by decide) (enc_150 X _ _) (by decide) hn hC hd hst hcat hdd kk
theorem cl6_137 (h : Ok l x X cc RX6 d)  {av rest : List Value} {d' : Nat} {r : Int32} {σ' : fM} (hC : Ct l X yX6_richer cX6_richer 5 (some .int) d' (ra X (150) :: av) σ (some (.int r)) σ') (hn : av.length = 1) (hd : decode cc pc = .ok (.invokevirtual 137, 3)) (hst : st = av.reverse ++ ra X (150) :: rest) (hcat : (rest.map fun v => v.category).sum ≤ 8) (hdd : d' < d) (kk : G x X σ' L (.int r :: rest) (pc + 3)) : G x X σ L st pc := g_callV h (n := 1) (ci := 6) (gd_V (lw_in 848 (by decide +kernel) rfl) (lw_in 850 (by decide +kernel) rfl) (lw_sel 24 (by decide +kernel) rfl) (lw_in 7 (by decide +kernel) rfl) (lw_in 851 (by decide +kernel) rfl)) (by decide +kernel) rfl rfl (by decide) (enc_150 X _ _) (by decide) hn hC hd hst hcat hdd kk
theorem clL_71 (h : Ok l x X cc RL d)  {av rest : List Value} {d' : Nat} {r : Int32} {σ' : fM} (hC : Ct l X yX6_says cX6_says 3 (some .int) d' (ra X (150) :: av) σ (some (.int r)) σ') (hn : av.length = 2) (hd : decode cc pc = .ok (.invokevirtual 71, 3)) (hst : st = av.reverse ++ ra X (150) :: rest) (hcat : (rest.map fun v => v.category).sum ≤ 8) (hdd : d' < d) (kk : G x X σ' L (.int r :: rest) (pc + 3)) : G x X σ L st pc := g_callV h (n := 2) (ci := 6) (gd_V (lw_in 852 (by decide +kernel) rfl) (lw_in 853 (by decide +kernel) rfl) (lw_in 854 (by decide +kernel) rfl) (lw_in 7 (by decide +kernel) rfl) (lw_in 855 (by decide +kernel) rfl)) (by decide +kernel) rfl rfl (by decide) (enc_150 X _ _) (by decide) hn hC hd hst hcat hdd kk
theorem clL_75 (h : Ok l x X cc RL d)  {av rest : List Value} {d' : Nat} {r : Int32} {σ' : fM} (hC : Ct l X yX6_stake cX6_stake 3 (some .int) d' (ra X (150) :: av) σ (some (.int r)) σ') (hn : av.length = 2) (hd : decode cc pc = .ok (.invokevirtual 75, 3)) (hst : st = av.reverse ++ ra X (150) :: rest) (hcat : (rest.map fun v => v.category).sum ≤ 8) (hdd : d' < d) (kk : G x X σ' L (.int r :: rest) (pc + 3)) : G x X σ L st pc := g_callV h (n := 2) (ci := 6) (gd_V (lw_in 856 (by decide +kernel) rfl) (lw_in 857 (by decide +kernel) rfl) (lw_in 858 (by decide +kernel) rfl) (lw_in 7 (by decide +kernel) rfl) (lw_in 859 (by decide +kernel) rfl)) (by decide +kernel) rfl rfl (by decide) (enc_150 X _ _) (by decide) hn hC hd hst hcat hdd kk
theorem clL_79 (h : Ok l x X cc RL d)  {av rest : List Value} {d' : Nat} {r : Int32} {σ' : fM} (hC : Ct l X yX6_odds cX6_odds 5 (some .int) d' (ra X (150) :: av) σ (some (.int r)) σ') (hn : av.length = 1) (hd : decode cc pc = .ok (.invokevirtual 79, 3)) (hst : st = av.reverse ++ ra X (150) :: rest) (hcat : (rest.map fun v => v.category).sum ≤ 8) (hdd : d' < d) (kk : G x X σ' L (.int r :: rest) (pc + 3)) : G x X σ L st pc := g_callV h (n := 1) (ci := 6) (gd_V (lw_in 860 (by decide +kernel) rfl) (lw_in 861 (by decide +kernel) rfl) (lw_in 862 (by decide +kernel) rfl) (lw_in 7 (by decide +kernel) rfl) (lw_in 863 (by decide +kernel) rfl)) (by decide +kernel) rfl rfl (by decide) (enc_150 X _ _) (by decide) hn hC hd hst hcat hdd kk
theorem clL_83 (h : Ok l x X cc RL d)  {av rest : List Value} {d' : Nat} {r : Int32} {σ' : fM} (hC : Ct l X yX6_gain cX6_gain 5 (some .int) d' (ra X (150) :: av) σ (some (.int r)) σ') (hn : av.length = 3) (hd : decode cc pc = .ok (.invokevirtual 83, 3)) (hst : st = av.reverse ++ ra X (150) :: rest) (hcat : (rest.map fun v => v.category).sum ≤ 8) (hdd : d' < d) (kk : G x X σ' L (.int r :: rest) (pc + 3)) : G x X σ L st pc := g_callV h (n := 3) (ci := 6) (gd_V (lw_in 864 (by decide +kernel) rfl) (lw_in 865 (by decide +kernel) rfl) (lw_in 866 (by decide +kernel) rfl) (lw_in 7 (by decide +kernel) rfl) (lw_in 867 (by decide +kernel) rfl)) (by decide +kernel) rfl rfl (by decide) (enc_150 X _ _) (by decide) hn hC hd hst hcat hdd kk
theorem clL_87 (h : Ok l x X cc RL d)  {av rest : List Value} {d' : Nat} {r : Int32} {σ' : fM} (hC : Ct l X yX6_doom cX6_doom 6 (some .int) d' (ra X (150) :: av) σ (some (.int r)) σ') (hn : av.length = 3) (hd : decode cc pc = .ok (.invokevirtual 87, 3)) (hst : st = av.reverse ++ ra X (150) :: rest) (hcat : (rest.map fun v => v.category).sum ≤ 8) (hdd : d' < d) (kk : G x X σ' L (.int r :: rest) (pc + 3)) : G x X σ L st pc := g_callV h (n := 3) (ci := 6) (gd_V (lw_in 868 (by decide +kernel) rfl) (lw_in 869 (by decide +kernel) rfl) (lw_in 870 (by decide +kernel) rfl) (lw_in 7 (by decide +kernel) rfl) (lw_in 871 (by decide +kernel) rfl)) (by decide +kernel) rfl rfl (by decide) (enc_150 X _ _) (by decide) hn hC hd hst hcat hdd kk
theorem clL_92 (h : Ok l x X cc RL d)  {av rest : List Value} {d' : Nat} {r : Int32} {σ' : fM} (hC : Ct l X yX6_bestRow cX6_bestRow 9 (some .int) d' (ra X (150) :: av) σ (some (.int r)) σ') (hn : av.length = 4) (hd : decode cc pc = .ok (.invokevirtual 92, 3)) (hst : st = av.reverse ++ ra X (150) :: rest) (hcat : (rest.map fun v => v.category).sum ≤ 8) (hdd : d' < d) (kk : G x X σ' L (.int r :: rest) (pc + 3)) : G x X σ L st pc := g_callV h (n := 4) (ci := 6) (gd_V (lw_in 872 (by decide +kernel) rfl) (lw_in 873 (by decide +kernel) rfl) (lw_in 874 (by decide +kernel) rfl) (lw_in 7 (by decide +kernel) rfl) (lw_in 875 (by decide +kernel) rfl)) (by decide +kernel) rfl rfl (by decide) (enc_150 X _ _) (by decide) hn hC hd hst hcat hdd kk
theorem clL_96 (h : Ok l x X cc RL d)  {av rest : List Value} {d' : Nat} {r : Int32} {σ' : fM} (hC : Ct l X yX6_count cX6_count 6 (some .int) d' (ra X (150) :: av) σ (some (.int r)) σ') (hn : av.length = 1) (hd : decode cc pc = .ok (.invokevirtual 96, 3)) (hst : st = av.reverse ++ ra X (150) :: rest) (hcat : (rest.map fun v => v.category).sum ≤ 8) (hdd : d' < d) (kk : G x X σ' L (.int r :: rest) (pc + 3)) : G x X σ L st pc := g_callV h (n := 1) (ci := 6) (gd_V (lw_in 876 (by decide +kernel) rfl) (lw_in 877 (by decide +kernel) rfl) (lw_in 878 (by decide +kernel) rfl) (lw_in 7 (by decide +kernel) rfl) (lw_in 879 (by decide +kernel) rfl)) (by decide +kernel) rfl rfl (by decide) (enc_150 X _ _) (by decide) hn hC hd hst hcat hdd kk
theorem clL_101 (h : Ok l x X cc RL d)  {av rest : List Value} {d' : Nat} {r : Int32} {σ' : fM} (hC : Ct l X yX6_undo cX6_undo 1 (some .int) d' (ra X (150) :: av) σ (some (.int r)) σ') (hn : av.length = 0) (hd : decode cc pc = .ok (.invokevirtual 101, 3)) (hst : st = av.reverse ++ ra X (150) :: rest) (hcat : (rest.map fun v => v.category).sum ≤ 8) (hdd : d' < d) (kk : G x X σ' L (.int r :: rest) (pc + 3)) : G x X σ L st pc := g_callV h (n := 0) (ci := 6) (gd_V (lw_in 880 (by decide +kernel) rfl) (lw_in 881 (by decide +kernel) rfl) (lw_in 882 (by decide +kernel) rfl) (lw_in 7 (by decide +kernel) rfl) (lw_in 883 (by decide +kernel) rfl)) (by decide +kernel) rfl rfl (by decide) (enc_150 X _ _) (by decide) hn hC hd hst hcat hdd kk
theorem clL_105 (h : Ok l x X cc RL d)  {av rest : List Value} {d' : Nat} {r : Int32} {σ' : fM} (hC : Ct l X yX6_type cX6_type 2 (some .int) d' (ra X (150) :: av) σ (some (.int r)) σ') (hn : av.length = 1) (hd : decode cc pc = .ok (.invokevirtual 105, 3)) (hst : st = av.reverse ++ ra X (150) :: rest) (hcat : (rest.map fun v => v.category).sum ≤ 8) (hdd : d' < d) (kk : G x X σ' L (.int r :: rest) (pc + 3)) : G x X σ L st pc := g_callV h (n := 1) (ci := 6) (gd_V (lw_in 884 (by decide +kernel) rfl) (lw_in 885 (by decide +kernel) rfl) (lw_in 886 (by decide +kernel) rfl) (lw_in 7 (by decide +kernel) rfl) (lw_in 887 (by decide +kernel) rfl)) (by decide +kernel) rfl rfl (by decide) (enc_150 X _ _) (by decide) hn hC hd hst hcat hdd kk
theorem clL_109 (h : Ok l x X cc RL d)  {av rest : List Value} {d' : Nat} {r : Int32} {σ' : fM} (hC : Ct l X yX6_clearText cX6_clearText 2 (some .int) d' (ra X (150) :: av) σ (some (.int r)) σ') (hn : av.length = 0) (hd : decode cc pc = .ok (.invokevirtual 109, 3)) (hst : st = av.reverse ++ ra X (150) :: rest) (hcat : (rest.map fun v => v.category).sum ≤ 8) (hdd : d' < d) (kk : G x X σ' L (.int r :: rest) (pc + 3)) : G x X σ L st pc := g_callV h (n := 0) (ci := 6) (gd_V (lw_in 888 (by decide +kernel) rfl) (lw_in 889 (by decide +kernel) rfl) (lw_in 890 (by decide +kernel) rfl) (lw_in 7 (by decide +kernel) rfl) (lw_in 891 (by decide +kernel) rfl)) (by decide +kernel) rfl rfl (by decide) (enc_150 X _ _) (by decide) hn hC hd hst hcat hdd kk
theorem clL_113 (h : Ok l x X cc RL d)  {av rest : List Value} {d' : Nat} {r : Int32} {σ' : fM} (hC : Ct l X yX6_fault cX6_fault 2 (some .int) d' (ra X (150) :: av) σ (some (.int r)) σ') (hn : av.length = 1) (hd : decode cc pc = .ok (.invokevirtual 113, 3)) (hst : st = av.reverse ++ ra X (150) :: rest) (hcat : (rest.map fun v => v.category).sum ≤ 8) (hdd : d' < d) (kk : G x X σ' L (.int r :: rest) (pc + 3)) : G x X σ L st pc := g_callV h (n := 1) (ci := 6) (gd_V (lw_in 892 (by decide +kernel) rfl) (lw_in 893 (by decide +kernel) rfl) (lw_in 894 (by decide +kernel) rfl) (lw_in 7 (by decide +kernel) rfl) (lw_in 895 (by decide +kernel) rfl)) (by decide +kernel) rfl rfl (by decide) (enc_150 X _ _) (by decide) hn hC hd hst hcat hdd kk
theorem cl6_188 (h : Ok l x X cc RX6 d)  {av rest : List Value} {d' : Nat} {r : Int32} {σ' : fM} (hC : Ct l X yX6_hasFault cX6_hasFault 2 (some .boolean) d' (ra X (150) :: av) σ (some (.int r)) σ') (hn : av.length = 0) (hd : decode cc pc = .ok (.invokevirtual 188, 3)) (hst : st = av.reverse ++ ra X (150) :: rest) (hcat : (rest.map fun v => v.category).sum ≤ 8) (hdd : d' < d) (kk : G x X σ' L (.int r :: rest) (pc + 3)) : G x X σ L st pc := g_callV h (n := 0) (ci := 6) (gd_V (lw_in 896 (by decide +kernel) rfl) (lw_in 898 (by decide +kernel) rfl) (lw_sel 25 (by decide +kernel) rfl) (lw_in 7 (by decide +kernel) rfl) (lw_in 899 (by decide +kernel) rfl)) (by decide +kernel) rfl rfl (by decide) (enc_150 X _ _) (by decide) hn hC hd hst hcat hdd kk
theorem cl6_185 (h : Ok l x X cc RX6 d)  {av rest : List Value} {d' : Nat} {r : Int32} {σ' : fM} (hC : Ct l X yX6_readsOrder cX6_readsOrder 3 (some .boolean) d' (ra X (150) :: av) σ (some (.int r)) σ') (hn : av.length = 0) (hd : decode cc pc = .ok (.invokevirtual 185, 3)) (hst : st = av.reverse ++ ra X (150) :: rest) (hcat : (rest.map fun v => v.category).sum ≤ 8) (hdd : d' < d) (kk : G x X σ' L (.int r :: rest) (pc + 3)) : G x X σ L st pc := g_callV h (n := 0) (ci := 6) (gd_V (lw_in 900 (by decide +kernel) rfl) (lw_in 902 (by decide +kernel) rfl) (lw_sel 26 (by decide +kernel) rfl) (lw_in 7 (by decide +kernel) rfl) (lw_in 903 (by decide +kernel) rfl)) (by decide +kernel) rfl rfl (by decide) (enc_150 X _ _) (by decide) hn hC hd hst hcat hdd kk
theorem cl6_178 (h : Ok l x X cc RX6 d)  {av rest : List Value} {d' : Nat} {r : Int32} {σ' : fM} (hC : Ct l X yX6_isOfForm cX6_isOfForm 2 (some .boolean) d' (ra X (150) :: av) σ (some (.int r)) σ') (hn : av.length = 0) (hd : decode cc pc = .ok (.invokevirtual 178, 3)) (hst : st = av.reverse ++ ra X (150) :: rest) (hcat : (rest.map fun v => v.category).sum ≤ 8) (hdd : d' < d) (kk : G x X σ' L (.int r :: rest) (pc + 3)) : G x X σ L st pc := g_callV h (n := 0) (ci := 6) (gd_V (lw_in 904 (by decide +kernel) rfl) (lw_in 906 (by decide +kernel) rfl) (lw_sel 27 (by decide +kernel) rfl) (lw_in 7 (by decide +kernel) rfl) (lw_in 907 (by decide +kernel) rfl)) (by decide +kernel) rfl rfl (by decide) (enc_150 X _ _) (by decide) hn hC hd hst hcat hdd kk
theorem cl6_156 (h : Ok l x X cc RX6 d)  {av rest : List Value} {d' : Nat} {r : Int32} {σ' : fM} (hC : Ct l X yX6_isLetter cX6_isLetter 2 (some .boolean) d' (ra X (150) :: av) σ (some (.int r)) σ') (hn : av.length = 1) (hd : decode cc pc = .ok (.invokevirtual 156, 3)) (hst : st = av.reverse ++ ra X (150) :: rest) (hcat : (rest.map fun v => v.category).sum ≤ 8) (hdd : d' < d) (kk : G x X σ' L (.int r :: rest) (pc + 3)) : G x X σ L st pc := g_callV h (n := 1) (ci := 6) (gd_V (lw_in 908 (by decide +kernel) rfl) (lw_in 910 (by decide +kernel) rfl) (lw_sel 28 (by decide +kernel) rfl) (lw_in 7 (by decide +kernel) rfl) (lw_in 911 (by decide +kernel) rfl)) (by decide +kernel) rfl rfl (by decide) (enc_150 X _ _) (by decide) hn hC hd hst hcat hdd kk
theorem cl6_143 (h : Ok l x X cc RX6 d)  {av rest : List Value} {d' : Nat} {r : Int32} {σ' : fM} (hC : Ct l X yX6_character cX6_character 2 (some .int) d' (ra X (150) :: av) σ (some (.int r)) σ') (hn : av.length = 1) (hd : decode cc pc = .ok (.invokevirtual 143, 3)) (hst : st = av.reverse ++ ra X (150) :: rest) (hcat : (rest.map fun v => v.category).sum ≤ 8) (hdd : d' < d) (kk : G x X σ' L (.int r :: rest) (pc + 3)) : G x X σ L st pc := g_callV h (n := 1) (ci := 6) (gd_V (lw_in 912 (by decide +kernel) rfl) (lw_in 914 (by decide +kernel) rfl) (lw_sel 29 (by decide +kernel) rfl) (lw_in 7 (by decide +kernel) rfl) (lw_in 915 (by decide +kernel) rfl)) (by decide +kernel) rfl rfl (by decide) (enc_150 X _ _) (by decide) hn hC hd hst hcat hdd kk
theorem cl6_159 (h : Ok l x X cc RX6 d)  {av rest : List Value} {d' : Nat} {r : Int32} {σ' : fM} (hC : Ct l X yX6_orderOf cX6_orderOf 2 (some .int) d' (ra X (150) :: av) σ (some (.int r)) σ') (hn : av.length = 1) (hd : decode cc pc = .ok (.invokevirtual 159, 3)) (hst : st = av.reverse ++ ra X (150) :: rest) (hcat : (rest.map fun v => v.category).sum ≤ 8) (hdd : d' < d) (kk : G x X σ' L (.int r :: rest) (pc + 3)) : G x X σ L st pc := g_callV h (n := 1) (ci := 6) (gd_V (lw_in 916 (by decide +kernel) rfl) (lw_in 918 (by decide +kernel) rfl) (lw_sel 30 (by decide +kernel) rfl) (lw_in 7 (by decide +kernel) rfl) (lw_in 919 (by decide +kernel) rfl)) (by decide +kernel) rfl rfl (by decide) (enc_150 X _ _) (by decide) hn hC hd hst hcat hdd kk
theorem cl6_149 (h : Ok l x X cc RX6 d)  {av rest : List Value} {d' : Nat} {r : Int32} {σ' : fM} (hC : Ct l X yX6_isWord cX6_isWord 7 (some .boolean) d' (ra X (150) :: av) σ (some (.int r)) σ') (hn : av.length = 5) (hd : decode cc pc = .ok (.invokevirtual 149, 3)) (hst : st = av.reverse ++ ra X (150) :: rest) (hcat : (rest.map fun v => v.category).sum ≤ 8) (hdd : d' < d) (kk : G x X σ' L (.int r :: rest) (pc + 3)) : G x X σ L st pc := g_callV h (n := 5) (ci := 6) (gd_V (lw_in 920 (by decide +kernel) rfl) (lw_in 922 (by decide +kernel) rfl) (lw_sel 31 (by decide +kernel) rfl) (lw_in 7 (by decide +kernel) rfl) (lw_in 923 (by decide +kernel) rfl)) (by decide +kernel) rfl rfl (by decide) (enc_150 X _ _) (by decide) hn hC hd hst hcat hdd kk
theorem cl6_171 (h : Ok l x X cc RX6 d)  {av rest : List Value} {d' : Nat} {r : Int32} {σ' : fM} (hC : Ct l X yX6_number cX6_number 3 (some .int) d' (ra X (150) :: av) σ (some (.int r)) σ') (hn : av.length = 0) (hd : decode cc pc = .ok (.invokevirtual 171, 3)) (hst : st = av.reverse ++ ra X (150) :: rest) (hcat : (rest.map fun v => v.category).sum ≤ 8) (hdd : d' < d) (kk : G x X σ' L (.int r :: rest) (pc + 3)) : G x X σ L st pc := g_callV h (n := 0) (ci := 6) (gd_V (lw_in 924 (by decide +kernel) rfl) (lw_in 926 (by decide +kernel) rfl) (lw_sel 32 (by decide +kernel) rfl) (lw_in 7 (by decide +kernel) rfl) (lw_in 927 (by decide +kernel) rfl)) (by decide +kernel) rfl rfl (by decide) (enc_150 X _ _) (by decide) hn hC hd hst hcat hdd kk
theorem clL_117 (h : Ok l x X cc RL d)  {av rest : List Value} {d' : Nat} {r : Int32} {σ' : fM} (hC : Ct l X yX6_play cX6_play 2 (some .int) d' (ra X (150) :: av) σ (some (.int r)) σ') (hn : av.length = 0) (hd : decode cc pc = .ok (.invokevirtual 117, 3)) (hst : st = av.reverse ++ ra X (150) :: rest) (hcat : (rest.map fun v => v.category).sum ≤ 8) (hdd : d' < d) (kk : G x X σ' L (.int r :: rest) (pc + 3)) : G x X σ L st pc := g_callV h (n := 0) (ci := 6) (gd_V (lw_in 928 (by decide +kernel) rfl) (lw_in 929 (by decide +kernel) rfl) (lw_in 930 (by decide +kernel) rfl) (lw_in 7 (by decide +kernel) rfl) (lw_in 931 (by decide +kernel) rfl)) (by decide +kernel) rfl rfl (by decide) (enc_150 X _ _) (by decide) hn hC hd hst hcat hdd kk
theorem cl6_191 (h : Ok l x X cc RX6 d)  {av rest : List Value} {d' : Nat} {r : Int32} {σ' : fM} (hC : Ct l X yX6_does cX6_does 3 (some .int) d' (ra X (150) :: av) σ (some (.int r)) σ') (hn : av.length = 0) (hd : decode cc pc = .ok (.invokevirtual 191, 3)) (hst : st = av.reverse ++ ra X (150) :: rest) (hcat : (rest.map fun v => v.category).sum ≤ 8) (hdd : d' < d) (kk : G x X σ' L (.int r :: rest) (pc + 3)) : G x X σ L st pc := g_callV h (n := 0) (ci := 6) (gd_V (lw_in 932 (by decide +kernel) rfl) (lw_in 934 (by decide +kernel) rfl) (lw_sel 33 (by decide +kernel) rfl) (lw_in 7 (by decide +kernel) rfl) (lw_in 935 (by decide +kernel) rfl)) (by decide +kernel) rfl rfl (by decide) (enc_150 X _ _) (by decide) hn hC hd hst hcat hdd kk
end CALLS
end
section
/-! rules of the JDK's members, of answers that are truth values -/
section NAT
variable {l : Launch} {x : fC} {X : fX} {σ : fM} {L : List (Nat × Value)} {st : List Value} {pc : Nat} {cc : ByteArray} {own : String} {d : Nat}
theorem g_ifeqB (h : Ok l x X cc own d) {b : Bool} {off : Int} (tgt : Nat) (hd : decode cc pc = .ok (.ifCond .eq off, 3)) (ht : (pc : Int) + off = (tgt : Int)) (kt : b = false → G x X σ L st tgt) (kf : b = true → G x X σ L st (pc + 3)) : G x X σ L (.int (bi b) :: st) pc := g_ifeq h tgt hd ht (fun c => kt ((bi_0 b).mp c)) (fun c => kf (by cases b with | false => exact absurd rfl c | true => rfl))
theorem g_ifneB (h : Ok l x X cc own d) {b : Bool} {off : Int} (tgt : Nat) (hd : decode cc pc = .ok (.ifCond .ne off, 3)) (ht : (pc : Int) + off = (tgt : Int)) (kt : b = true → G x X σ L st tgt) (kf : b = false → G x X σ L st (pc + 3)) : G x X σ L (.int (bi b) :: st) pc := g_ifne h tgt hd ht (fun c => kt (by cases b with | false => exact absurd rfl c | true => rfl)) (fun c => kf ((bi_0 b).mp c))
theorem g_min (h : Ok l x X cc own d) {idx : Nat} {a b : Int32} (hw : Cond.methodLink own idx Lib.Math.min.name ∈ lw_gd) (hd : decode cc pc = .ok (.invokestatic idx, 3)) (h0 : 0 < d) (hcat : (st.map fun v => v.category).sum ≤ 8) (k : G x X σ L (.int (if b < a then b else a) :: st) (pc + 3)) : G x X σ L (.int b :: .int a :: st) pc := fun H locs ls hP hS hl =>
  va_mmin h.hx h.hb (h.hml.trans hl.1.symm) h.ho (h.hts _ hw) (h.hts _ (lw_in 353 (by decide +kernel) rfl)) (h.hts _ (lw_in 9 (by decide +kernel) rfl)) (h.hts _ (lw_in 354 (by decide +kernel) rfl)) (by have := h.hF; omega) (by have := h.hF; omega) h.hC.1 h.hC.2 hd (k H locs ls hP hS hl)
theorem g_max (h : Ok l x X cc own d) {idx : Nat} {a b : Int32} (hw : Cond.methodLink own idx Lib.Math.max.name ∈ lw_gd) (hd : decode cc pc = .ok (.invokestatic idx, 3)) (h0 : 0 < d) (hcat : (st.map fun v => v.category).sum ≤ 8) (k : G x X σ L (.int (if a < b then b else a) :: st) (pc + 3)) : G x X σ L (.int b :: .int a :: st) pc := fun H locs ls hP hS hl =>
  va_mmax h.hx h.hb (h.hml.trans hl.1.symm) h.ho (h.hts _ hw) (h.hts _ (lw_in 396 (by decide +kernel) rfl)) (h.hts _ (lw_in 9 (by decide +kernel) rfl)) (h.hts _ (lw_in 397 (by decide +kernel) rfl)) (by have := h.hF; omega) (by have := h.hF; omega) h.hC.1 h.hC.2 hd (k H locs ls hP hS hl)
theorem g_min1_66 (h : Ok l x X cc RX1 d) {a b : Int32} (hd : decode cc pc = .ok (.invokestatic 66, 3)) (h0 : 0 < d) (hcat : (st.map fun v => v.category).sum ≤ 8) (k : G x X σ L (.int (if b < a then b else a) :: st) (pc + 3)) : G x X σ L (.int b :: .int a :: st) pc := g_min h (lw_in 352 (by decide +kernel) rfl) hd h0 hcat k
theorem g_min3_141 (h : Ok l x X cc RX3 d) {a b : Int32} (hd : decode cc pc = .ok (.invokestatic 141, 3)) (h0 : 0 < d) (hcat : (st.map fun v => v.category).sum ≤ 8) (k : G x X σ L (.int (if b < a then b else a) :: st) (pc + 3)) : G x X σ L (.int b :: .int a :: st) pc := g_min h (lw_in 372 (by decide +kernel) rfl) hd h0 hcat k
theorem g_max1_71 (h : Ok l x X cc RX1 d) {a b : Int32} (hd : decode cc pc = .ok (.invokestatic 71, 3)) (h0 : 0 < d) (hcat : (st.map fun v => v.category).sum ≤ 8) (k : G x X σ L (.int (if a < b then b else a) :: st) (pc + 3)) : G x X σ L (.int b :: .int a :: st) pc := g_max h (lw_in 395 (by decide +kernel) rfl) hd h0 hcat k
/-- a row of ints is put whole -/
def puR (σ : fM) (k : Nat) (row : Nat → Int32) : fM := (fun k' => if k' = k then row else σ.1 k', σ.2)
theorem puR_self (σ : fM) (k : Nat) (row : Nat → Int32) : (puR σ k row).1 k = row := by simp [puR]
theorem puR_ne {σ : fM} {k : Nat} {row : Nat → Int32} (k' : Nat) (h : k' ≠ k) : (puR σ k row).1 k' = σ.1 k' := by simp [puR, h]
/-- the first n ints are copied -/
def cpy (f g : Nat → Int32) (n : Nat) : Nat → Int32 := fun j => if j < n then f j else g j
theorem cpy_va (f g : Nat → Int32) (n : Nat) : va_cpy f g 0 0 n = cpy f g n := by
  funext j
  simp [va_cpy, cpy]
theorem g_copy (h : Ok l x X cc own d) {idx k0 k1 n n0 n1 : Nat} {i0 i1 i2 : Int32} (hw : Cond.methodLink own idx arraycopyName ∈ lw_gd) (hk0 : k0 < 159) (hk1 : k1 < 159) (he0 : ∀ row e, enc X k0 row e = .inl (X.2.2.1 0, n0, .inl row)) (he1 : ∀ row e, enc X k1 row e = .inl (X.2.2.1 0, n1, .inl row)) (e0 : i0 = nI 0) (e1 : i1 = nI 0) (e2 : i2 = nI n) (h0n : n ≤ n0) (h1n : n ≤ n1) (hn : n < 2 ^ 31)
    (hd : decode cc pc = .ok (.invokestatic idx, 3)) (h0 : 0 < d) (hcat : (st.map fun v => v.category).sum ≤ 8) (k : G x X (puR σ k1 (cpy (σ.1 k0) (σ.1 k1) n)) L st (pc + 3)) : G x X σ L (.int i2 :: .int i1 :: ra X k1 :: .int i0 :: ra X k0 :: st) pc := fun H locs ls hP hS hl => by
  subst e0; subst e1; subst e2
  have z0 : (nI 0).toNatClampNeg = 0 := nI_clamp (by decide)
  have zn : (nI n).toNatClampNeg = n := nI_clamp hn
  have hfr : 1 ≤ (xR x).frames := by have := h.hF; omega
  have e : nativeFrameWords "java/lang/System" "arraycopy" 5 ≤ 11 := by decide
  have hlo : (st.map fun v => v.category).sum + (nativeFrameWords "java/lang/System" "arraycopy" 5 + 11) ≤ (xR x).locals := by have := h.hF; omega
  have a1 : (nI 0).toNatClampNeg + (nI n).toNatClampNeg ≤ n0 := by rw [z0, zn]; omega
  have a2 : (nI 0).toNatClampNeg + (nI n).toNatClampNeg ≤ n1 := by rw [z0, zn]; omega
  refine va_copyi (ty := .int) h.hx h.hb (h.hml.trans hl.1.symm) h.ho (h.hts _ hw) (h.hts _ (lw_in 252 (by decide +kernel) rfl)) (h.hts _ (lw_in 251 (by decide +kernel) rfl)) (h.hts _ (lw_in 8 (by decide +kernel) rfl)) h.hK hP (wl_D h.hA σ) hS k0 k1 0 0 (by rw [wl_get hk0, he0]) (by rw [wl_get hk1, he1]) rfl rfl rfl (nI_pos (by decide)) (nI_pos (by decide)) (nI_pos hn) a1 a2 (fun _ _ => rfl) hfr hlo hd (fun H1 locs1 hP1 hD1 hS1 => k H1 locs1 ls ?_ hS1 hl)
  rw [z0, zn, cpy_va, wl_set (σ := σ) (σ' := puR σ k1 (cpy (σ.1 k0) (σ.1 k1) n)) (by rw [he1, puR_self]) (fun k' hne => puR_ne k' hne) (fun _ _ => rfl)] at hP1
  exact hP1
theorem g_alen (h : Ok l x X cc own d) {k n t : Nat} {ty : FieldType} (hk : k < 159) (he : ∀ row e, enc X k row e = .inl (X.2.2.1 t, n, .inl row)) (ht : (fty X)[t]? = some (X.2.2.1 t, ty)) (hd : decode cc pc = .ok (.arraylength, 1)) (kk : G x X σ L (.int (nI n) :: st) (pc + 1)) : G x X σ L (ra X k :: st) pc := fun H locs ls hP hS hl =>
  va_alen (x := (n, .inl (σ.1 k))) h.hx h.hb h.hK hP k t (by rw [wl_get hk, he]) ht rfl hd (kk H locs ls hP hS hl)
theorem g_iinc1 (h : Ok l x X cc own d) {i : Nat} {v : Int32} (hd : decode cc pc = .ok (.iinc i 1, 3)) (hv : lk L i = some (.int v)) (hn : i < xL x) (k : G x X σ (ls1 L i (.int (v + 1))) st (pc + 3)) : G x X σ L st pc := g_iinc h hd hv hn k
theorem lk_0 : some (Value.int 0) = some (Value.int (nI 0)) := by rw [nI_0]
end NAT
end
section
/-! the class of oracles: what its methods answer, over the ints f of an oracle, its table t -/
def oSeat (f : Nat → Int32) : Bool := decide (¬ f 3 = -1)
def oRuin (f : Nat → Int32) : Bool := decide (f 2 = 0)
def oIn (f : Nat → Int32) : Bool := oSeat f && !oRuin f
def oTab (f : Nat → Int32) : Bool := !decide (f 0 < 1) && !decide (3 < f 0)
def oSize (f : Nat → Int32) : Int32 := if oTab f = true then 1 <<< (f 1 &&& 31) else 0
def oMask (f : Nat → Int32) : Int32 := (1 <<< (f 1 &&& 31)) - 1
def oSlot (f : Nat → Int32) (a hi : Int32) : Int32 := if f 0 = 1 then a &&& oMask f else if f 0 = 2 then hi &&& oMask f else (a ^^^ hi) &&& oMask f
def oWord (f t : Nat → Int32) (a hi : Int32) : Int32 := if oTab f = true then (if t (oSlot f a hi).toNatClampNeg < 2 then 0 else 1) else f 1
def oSure (f t : Nat → Int32) (a hi : Int32) : Bool := oTab f && (decide (t (oSlot f a hi).toNatClampNeg = 0) || decide (t (oSlot f a hi).toNatClampNeg = 3))
def oStake (f t : Nat → Int32) (u a hi : Int32) : Int32 := if oIn f = true then (if (if oSure f t a hi = true then 2 * u else u) < f 2 then (if oSure f t a hi = true then 2 * u else u) else f 2) else 0
/-- the number of a table is in range -/
def oGood (f : Nat → Int32) : Prop := oTab f = true → ∃ n : Nat, n ≤ 5 ∧ f 1 = nI n
theorem oMask_b : ∀ n, n ≤ 5 → (((1 : Int32) <<< (nI n &&& 31)) - 1).toBitVec.toNat = 2 ^ n - 1 := by decide +kernel
theorem oSlot_in {f : Nat → Int32} (hg : oGood f) (ht : oTab f = true) (a hi : Int32) : vp_in (oSlot f a hi) 32 := by
  obtain ⟨n, hn, e⟩ := hg ht
  have key : ∀ z : Int32, vp_in (z &&& oMask f) 32 := by
    intro z
    unfold oMask
    rw [e]
    obtain ⟨j, hj, ej⟩ := pk_andE z n (oMask_b n hn)
    rw [ej]
    have h32 : 2 ^ n ≤ 2 ^ 5 := Nat.pow_le_pow_right (by decide) hn
    exact vp_in_nI (by omega) (by decide)
  unfold oSlot
  split
  · exact key _
  · split
    · exact key _
    · exact key _

/-- a counter behind a branch -/
def oLrn (c k : Int32) : Int32 := if k = 1 then (if c + 1 < 3 then c + 1 else 3) else (if 0 < c - 1 then c - 1 else 0)
/-- an oracle's ints behind a branch in which it was right (w not 0) or wrong -/
def oNote (f : Nat → Int32) (w : Int32) : Nat → Int32 :=
  let f1 := if w = 0 then upd f 6 (f 6 + 1) else upd f 5 (f 5 + 1)
  let f2 := upd f1 7 ((2 * f1 7 + (if w = 0 then 0 else 1)) &&& 65535)
  if f2 2 = 0 then upd f2 8 (f2 8 + 1) else f2
def oBegin (f : Nat → Int32) (k n p : Int32) : Nat → Int32 := upd (upd (upd (upd (upd (upd (upd (upd (upd f 0 k) 1 n) 2 p) 3 (-1)) 4 (-1)) 5 0) 6 0) 7 0) 8 0
/-- the ints of an oracle that are copied -/
def oCopy (f g : Nat → Int32) : Nat → Int32 := upd (upd (upd (upd (upd (upd (upd (upd (upd g 0 (f 0)) 1 (f 1)) 2 (f 2)) 3 (f 3)) 4 (f 4)) 5 (f 5)) 6 (f 6)) 7 (f 7)) 8 (f 8)
def lCopy (f g : Nat → Int32) : Nat → Int32 := upd (upd (upd g 0 (f 0)) 1 (f 1)) 2 (f 2)
theorem pu_puR (σ : fM) (k j : Nat) (v : Int32) : pu σ k j v = puR σ k (upd (σ.1 k) j v) := by
  refine Prod.ext ?_ rfl
  funext k' j'
  by_cases hk : k' = k
  · subst hk
    simp [pu, puR, upd]
  · simp [pu, puR, hk]
theorem puR_puR (σ : fM) (k : Nat) (r r' : Nat → Int32) : puR (puR σ k r) k r' = puR σ k r' := by
  refine Prod.ext ?_ rfl
  funext k'
  by_cases hk : k' = k <;> simp [puR, hk]
theorem puR_id (σ : fM) (k : Nat) : puR σ k (σ.1 k) = σ := by
  refine Prod.ext ?_ rfl
  funext k'
  by_cases hk : k' = k
  · subst hk; simp [puR]
  · simp [puR, hk]
theorem puR_comm (σ : fM) {k k' : Nat} (h : k ≠ k') (r r' : Nat → Int32) : puR (puR σ k r) k' r' = puR (puR σ k' r') k r := by
  refine Prod.ext ?_ rfl
  funext q
  by_cases h1 : q = k
  · subst h1
    simp [puR, h]
  · by_cases h2 : q = k'
    · subst h2; simp [puR, h1]
    · simp [puR, h1, h2]
theorem upd_s (f : Nat → Int32) (k : Nat) (x : Int32) : upd f k x k = x := by simp [upd]
theorem upd_n (f : Nat → Int32) (k j : Nat) (x : Int32) (h : ¬ j = k) : upd f k x j = f j := by simp [upd, h]
theorem iO_T (s i s' i' : Nat) : iO s i ≠ iT s' i' := by unfold iO iT; omega

set_option maxRecDepth 100000 in
set_option maxHeartbeats 4000000 in
theorem ct_X1_hasSeat {l : Launch} {X : fX} {σ : fM} {s i : Nat} (hs : s < 6) (hi : i < 6) : Ct l X yX1_hasSeat cX1_hasSeat 1 (some .boolean) 0 [ra X (iO s i)] σ (some (.int (bi (oSeat (σ.1 (iO s i)))))) σ := by
  refine Ct.of RX1 rfl (by decide) (Nat.le_of_ble_eq_true rfl) ?_
  intro x hL h hr
  refine g_sub [(0, ra X (iO s i))] ⟨rfl, trivial⟩ ?_
  refine g_aload_n h dX1_hasSeat_0 rfl ?_
  refine gf1_25 h (by omega) (by omega) dX1_hasSeat_1 ?_
  refine g_iconst (v := (-1)) h dX1_hasSeat_4 (by decide) ?_
  refine g_iceq h 12 dX1_hasSeat_5 (by decide) (fun c5 => ?_) (fun c5 => ?_)
  · refine g_iconst (v := 0) h dX1_hasSeat_12 (by decide) ?_
    exact g_zret h hr (by first | rfl | exact bi_n _) dX1_hasSeat_13 (by first | (simp [oSeat, bi, c5]; done) | (simp_all [oSeat, bi]; done)) rfl
  · refine g_iconst (v := 1) h dX1_hasSeat_8 (by decide) ?_
    refine g_goto h 13 dX1_hasSeat_9 (by decide) ?_
    exact g_zret h hr (by first | rfl | exact bi_n _) dX1_hasSeat_13 (by first | (simp [oSeat, bi, c5]; done) | (simp_all [oSeat, bi]; done)) rfl

set_option maxRecDepth 100000 in
set_option maxHeartbeats 4000000 in
theorem ct_X1_isRuined {l : Launch} {X : fX} {σ : fM} {s i : Nat} (hs : s < 6) (hi : i < 6) : Ct l X yX1_isRuined cX1_isRuined 1 (some .boolean) 0 [ra X (iO s i)] σ (some (.int (bi (oRuin (σ.1 (iO s i)))))) σ := by
  refine Ct.of RX1 rfl (by decide) (Nat.le_of_ble_eq_true rfl) ?_
  intro x hL h hr
  refine g_sub [(0, ra X (iO s i))] ⟨rfl, trivial⟩ ?_
  refine g_aload_n h dX1_isRuined_0 rfl ?_
  refine gf1_22 h (by omega) (by omega) dX1_isRuined_1 ?_
  refine g_ifne h 11 dX1_isRuined_4 (by decide) (fun c4 => ?_) (fun c4 => ?_)
  · refine g_iconst (v := 0) h dX1_isRuined_11 (by decide) ?_
    exact g_zret h hr (by first | rfl | exact bi_n _) dX1_isRuined_12 (by first | (simp [oRuin, bi, c4]; done) | (simp_all [oRuin, bi]; done)) rfl
  · refine g_iconst (v := 1) h dX1_isRuined_7 (by decide) ?_
    refine g_goto h 12 dX1_isRuined_8 (by decide) ?_
    exact g_zret h hr (by first | rfl | exact bi_n _) dX1_isRuined_12 (by first | (simp [oRuin, bi, c4]; done) | (simp_all [oRuin, bi]; done)) rfl

set_option maxRecDepth 100000 in
set_option maxHeartbeats 4000000 in
theorem ct_X1_takesPart {l : Launch} {X : fX} {σ : fM} {s i : Nat} (hs : s < 6) (hi : i < 6) : Ct l X yX1_takesPart cX1_takesPart 1 (some .boolean) 1 [ra X (iO s i)] σ (some (.int (bi (oIn (σ.1 (iO s i)))))) σ := by
  refine Ct.of RX1 rfl (by decide) (Nat.le_of_ble_eq_true rfl) ?_
  intro x hL h hr
  refine g_sub [(0, ra X (iO s i))] ⟨rfl, trivial⟩ ?_
  refine g_aload_n h dX1_takesPart_0 rfl ?_
  refine cl1_49 h (by omega) (by omega) (ct_X1_hasSeat (by omega) (by omega)) rfl dX1_takesPart_1 rfl (Nat.le_of_ble_eq_true rfl) (by decide) ?_
  refine g_ifeqB h 18 dX1_takesPart_4 (by decide) (fun c4 => ?_) (fun c4 => ?_)
  · refine g_iconst (v := 0) h dX1_takesPart_18 (by decide) ?_
    exact g_zret h hr (by first | rfl | exact bi_n _) dX1_takesPart_19 (by first | (simp [oIn, bi, c4]; done) | (simp_all [oIn, bi]; done)) rfl
  · refine g_aload_n h dX1_takesPart_7 rfl ?_
    refine cl1_53 h (by omega) (by omega) (ct_X1_isRuined (by omega) (by omega)) rfl dX1_takesPart_8 rfl (Nat.le_of_ble_eq_true rfl) (by decide) ?_
    refine g_ifneB h 18 dX1_takesPart_11 (by decide) (fun c11 => ?_) (fun c11 => ?_)
    · refine g_iconst (v := 0) h dX1_takesPart_18 (by decide) ?_
      exact g_zret h hr (by first | rfl | exact bi_n _) dX1_takesPart_19 (by first | (simp [oIn, bi, c4, c11]; done) | (simp_all [oIn, bi]; done)) rfl
    · refine g_iconst (v := 1) h dX1_takesPart_14 (by decide) ?_
      refine g_goto h 19 dX1_takesPart_15 (by decide) ?_
      exact g_zret h hr (by first | rfl | exact bi_n _) dX1_takesPart_19 (by first | (simp [oIn, bi, c4, c11]; done) | (simp_all [oIn, bi]; done)) rfl

set_option maxRecDepth 100000 in
set_option maxHeartbeats 4000000 in
theorem ct_X1_hasTable {l : Launch} {X : fX} {σ : fM} {s i : Nat} (hs : s < 6) (hi : i < 6) : Ct l X yX1_hasTable cX1_hasTable 1 (some .boolean) 0 [ra X (iO s i)] σ (some (.int (bi (oTab (σ.1 (iO s i)))))) σ := by
  refine Ct.of RX1 rfl (by decide) (Nat.le_of_ble_eq_true rfl) ?_
  intro x hL h hr
  refine g_sub [(0, ra X (iO s i))] ⟨rfl, trivial⟩ ?_
  refine g_aload_n h dX1_hasTable_0 rfl ?_
  refine gf1_15 h (by omega) (by omega) dX1_hasTable_1 ?_
  refine g_iconst (v := 1) h dX1_hasTable_4 (by decide) ?_
  refine g_iclt h 20 dX1_hasTable_5 (by decide) (fun c5 => ?_) (fun c5 => ?_)
  · refine g_iconst (v := 0) h dX1_hasTable_20 (by decide) ?_
    exact g_zret h hr (by first | rfl | exact bi_n _) dX1_hasTable_21 (by first | (simp [oTab, bi, c5]; done) | (simp_all [oTab, bi]; done)) rfl
  · refine g_aload_n h dX1_hasTable_8 rfl ?_
    refine gf1_15 h (by omega) (by omega) dX1_hasTable_9 ?_
    refine g_iconst (v := 3) h dX1_hasTable_12 (by decide) ?_
    refine g_icgt h 20 dX1_hasTable_13 (by decide) (fun c13 => ?_) (fun c13 => ?_)
    · refine g_iconst (v := 0) h dX1_hasTable_20 (by decide) ?_
      exact g_zret h hr (by first | rfl | exact bi_n _) dX1_hasTable_21 (by first | (simp [oTab, bi, c5, c13]; done) | (simp_all [oTab, bi]; done)) rfl
    · refine g_iconst (v := 1) h dX1_hasTable_16 (by decide) ?_
      refine g_goto h 21 dX1_hasTable_17 (by decide) ?_
      exact g_zret h hr (by first | rfl | exact bi_n _) dX1_hasTable_21 (by first | (simp [oTab, bi, c5, c13]; done) | (simp_all [oTab, bi]; done)) rfl

set_option maxRecDepth 100000 in
set_option maxHeartbeats 4000000 in
theorem ct_X1_tableSize {l : Launch} {X : fX} {σ : fM} {s i : Nat} (hs : s < 6) (hi : i < 6) : Ct l X yX1_tableSize cX1_tableSize 1 (some .int) 1 [ra X (iO s i)] σ (some (.int (oSize (σ.1 (iO s i))))) σ := by
  refine Ct.of RX1 rfl (by decide) (Nat.le_of_ble_eq_true rfl) ?_
  intro x hL h hr
  refine g_sub [(0, ra X (iO s i))] ⟨rfl, trivial⟩ ?_
  refine g_aload_n h dX1_tableSize_0 rfl ?_
  refine cl1_56 h (by omega) (by omega) (ct_X1_hasTable (by omega) (by omega)) rfl dX1_tableSize_1 rfl (Nat.le_of_ble_eq_true rfl) (by decide) ?_
  refine g_ifeqB h 16 dX1_tableSize_4 (by decide) (fun c4 => ?_) (fun c4 => ?_)
  · refine g_iconst (v := 0) h dX1_tableSize_16 (by decide) ?_
    exact g_iret h hr dX1_tableSize_17 (by first | (simp [oSize, c4]; done) | (simp_all [oSize]; done)) rfl
  · refine g_iconst (v := 1) h dX1_tableSize_7 (by decide) ?_
    refine g_aload_n h dX1_tableSize_8 rfl ?_
    refine gf1_19 h (by omega) (by omega) dX1_tableSize_9 ?_
    refine g_ishl h dX1_tableSize_12 ?_
    refine g_goto h 17 dX1_tableSize_13 (by decide) ?_
    exact g_iret h hr dX1_tableSize_17 (by first | (simp [oSize, c4]; done) | (simp_all [oSize]; done)) rfl

set_option maxRecDepth 100000 in
set_option maxHeartbeats 4000000 in
theorem ct_X1_slotOf {l : Launch} {X : fX} {σ : fM} {s i : Nat} (hs : s < 6) (hi : i < 6) {a b : Int32} : Ct l X yX1_slotOf cX1_slotOf 4 (some .int) 0 [ra X (iO s i), .int a, .int b] σ (some (.int (oSlot (σ.1 (iO s i)) a b))) σ := by
  refine Ct.of RX1 rfl (by decide) (Nat.le_of_ble_eq_true rfl) ?_
  intro x hL h hr
  refine g_sub [(0, ra X (iO s i)), (1, .int a), (2, .int b)] ⟨rfl, rfl, rfl, trivial⟩ ?_
  refine g_iconst (v := 1) h dX1_slotOf_0 (by decide) ?_
  refine g_aload_n h dX1_slotOf_1 rfl ?_
  refine gf1_19 h (by omega) (by omega) dX1_slotOf_2 ?_
  refine g_ishl h dX1_slotOf_5 ?_
  refine g_iconst (v := 1) h dX1_slotOf_6 (by decide) ?_
  refine g_isub h dX1_slotOf_7 ?_
  refine g_istore_n h dX1_slotOf_8 (by rw [hL]; decide) ?_
  refine g_aload_n h dX1_slotOf_9 rfl ?_
  refine gf1_15 h (by omega) (by omega) dX1_slotOf_10 ?_
  refine g_iconst (v := 1) h dX1_slotOf_13 (by decide) ?_
  refine g_icne h 21 dX1_slotOf_14 (by decide) (fun c14 => ?_) (fun c14 => ?_)
  · refine g_aload_n h dX1_slotOf_21 rfl ?_
    refine gf1_15 h (by omega) (by omega) dX1_slotOf_22 ?_
    refine g_iconst (v := 2) h dX1_slotOf_25 (by decide) ?_
    refine g_icne h 33 dX1_slotOf_26 (by decide) (fun c26 => ?_) (fun c26 => ?_)
    · refine g_iload_n h dX1_slotOf_33 rfl ?_
      refine g_iload_n h dX1_slotOf_34 rfl ?_
      refine g_ixor h dX1_slotOf_35 ?_
      refine g_iload_n h dX1_slotOf_36 rfl ?_
      refine g_iand h dX1_slotOf_37 ?_
      exact g_iret h hr dX1_slotOf_38 (by first | (simp [oSlot, oMask, c14, c26]; done) | (simp_all [oSlot, oMask]; done)) rfl
    · refine g_iload_n h dX1_slotOf_29 rfl ?_
      refine g_goto h 36 dX1_slotOf_30 (by decide) ?_
      refine g_iload_n h dX1_slotOf_36 rfl ?_
      refine g_iand h dX1_slotOf_37 ?_
      exact g_iret h hr dX1_slotOf_38 (by first | (simp [oSlot, oMask, c14, c26]; done) | (simp_all [oSlot, oMask]; done)) rfl
  · refine g_iload_n h dX1_slotOf_17 rfl ?_
    refine g_iload_n h dX1_slotOf_18 rfl ?_
    refine g_iand h dX1_slotOf_19 ?_
    exact g_iret h hr dX1_slotOf_20 (by first | (simp [oSlot, oMask, c14]; done) | (simp_all [oSlot, oMask]; done)) rfl

set_option maxRecDepth 100000 in
set_option maxHeartbeats 4000000 in
theorem ct_X1_wordOfItsOwn {l : Launch} {X : fX} {σ : fM} {s i : Nat} (hs : s < 6) (hi : i < 6) {a b : Int32} (hg : oGood (σ.1 (iO s i))) : Ct l X yX1_wordOfItsOwn cX1_wordOfItsOwn 3 (some .int) 2 [ra X (iO s i), .int a, .int b] σ (some (.int (oWord (σ.1 (iO s i)) (σ.1 (iT s i)) a b))) σ := by
  refine Ct.of RX1 rfl (by decide) (Nat.le_of_ble_eq_true rfl) ?_
  intro x hL h hr
  refine g_sub [(0, ra X (iO s i)), (1, .int a), (2, .int b)] ⟨rfl, rfl, rfl, trivial⟩ ?_
  refine g_aload_n h dX1_wordOfItsOwn_0 rfl ?_
  refine cl1_56 h (by omega) (by omega) (ct_X1_hasTable (by omega) (by omega)) rfl dX1_wordOfItsOwn_1 rfl (Nat.le_of_ble_eq_true rfl) (by decide) ?_
  refine g_ifneB h 12 dX1_wordOfItsOwn_4 (by decide) (fun c4 => ?_) (fun c4 => ?_)
  · refine g_aload_n h dX1_wordOfItsOwn_12 rfl ?_
    refine gf1_9 h (by omega) (by omega) dX1_wordOfItsOwn_13 ?_
    refine g_aload_n h dX1_wordOfItsOwn_16 rfl ?_
    refine g_iload_n h dX1_wordOfItsOwn_17 rfl ?_
    refine g_iload_n h dX1_wordOfItsOwn_18 rfl ?_
    refine cl1_59 h (by omega) (by omega) (ct_X1_slotOf (by omega) (by omega)) rfl dX1_wordOfItsOwn_19 rfl (Nat.le_of_ble_eq_true rfl) (by decide) ?_
    refine g_ialdT h (by omega) (by omega) (oSlot_in hg c4 _ _) dX1_wordOfItsOwn_22 ?_
    refine g_iconst (v := 2) h dX1_wordOfItsOwn_23 (by decide) ?_
    refine g_iclt h 31 dX1_wordOfItsOwn_24 (by decide) (fun c24 => ?_) (fun c24 => ?_)
    · refine g_iconst (v := 0) h dX1_wordOfItsOwn_31 (by decide) ?_
      exact g_iret h hr dX1_wordOfItsOwn_32 (by first | (simp [oWord, c4, c24]; done) | (simp_all [oWord]; done)) rfl
    · refine g_iconst (v := 1) h dX1_wordOfItsOwn_27 (by decide) ?_
      refine g_goto h 32 dX1_wordOfItsOwn_28 (by decide) ?_
      exact g_iret h hr dX1_wordOfItsOwn_32 (by first | (simp [oWord, c4, c24]; done) | (simp_all [oWord]; done)) rfl
  · refine g_aload_n h dX1_wordOfItsOwn_7 rfl ?_
    refine gf1_19 h (by omega) (by omega) dX1_wordOfItsOwn_8 ?_
    exact g_iret h hr dX1_wordOfItsOwn_11 (by first | (simp [oWord, c4]; done) | (simp_all [oWord]; done)) rfl

set_option maxRecDepth 100000 in
set_option maxHeartbeats 4000000 in
theorem ct_X1_stakeNow {l : Launch} {X : fX} {σ : fM} {s i : Nat} (hs : s < 6) (hi : i < 6) {u a b : Int32} (hg : oGood (σ.1 (iO s i))) : Ct l X yX1_stakeNow cX1_stakeNow 6 (some .int) 2 [ra X (iO s i), .int u, .int a, .int b] σ (some (.int (oStake (σ.1 (iO s i)) (σ.1 (iT s i)) u a b))) σ := by
  refine Ct.of RX1 rfl (by decide) (Nat.le_of_ble_eq_true rfl) ?_
  intro x hL h hr
  refine g_sub [(0, ra X (iO s i)), (1, .int u), (2, .int a), (3, .int b)] ⟨rfl, rfl, rfl, rfl, trivial⟩ ?_
  refine g_aload_n h dX1_stakeNow_0 rfl ?_
  refine cl1_63 h (by omega) (by omega) (ct_X1_takesPart (by omega) (by omega)) rfl dX1_stakeNow_1 rfl (Nat.le_of_ble_eq_true rfl) (by decide) ?_
  refine g_ifneB h 9 dX1_stakeNow_4 (by decide) (fun c4 => ?_) (fun c4 => ?_)
  · refine g_iconst (v := 0) h dX1_stakeNow_9 (by decide) ?_
    refine g_istore h dX1_stakeNow_10 (by rw [hL]; decide) ?_
    refine g_aload_n h dX1_stakeNow_12 rfl ?_
    refine cl1_56 h (by omega) (by omega) (ct_X1_hasTable (by omega) (by omega)) rfl dX1_stakeNow_13 rfl (Nat.le_of_ble_eq_true rfl) (by decide) ?_
    refine g_ifeqB h 50 dX1_stakeNow_16 (by decide) (fun c16 => ?_) (fun c16 => ?_)
    · refine g_aload_n h dX1_stakeNow_50 rfl ?_
      refine gf1_22 h (by omega) (by omega) dX1_stakeNow_51 ?_
      refine g_iload h dX1_stakeNow_54 rfl ?_
      refine g_ifeq h 65 dX1_stakeNow_56 (by decide) (fun c56 => ?_) (fun c56 => ?_)
      · refine g_iload_n h dX1_stakeNow_65 rfl ?_
        refine g_min1_66 h dX1_stakeNow_66 (by decide) (Nat.le_of_ble_eq_true rfl) ?_
        exact g_iret h hr dX1_stakeNow_69 (by first | (simp [oStake, oSure, c4, c16, c56]; done) | (simp_all [oStake, oSure]; done)) rfl
      · refine g_iconst (v := 2) h dX1_stakeNow_59 (by decide) ?_
        refine g_iload_n h dX1_stakeNow_60 rfl ?_
        refine g_imul h dX1_stakeNow_61 ?_
        refine g_goto h 66 dX1_stakeNow_62 (by decide) ?_
        refine g_min1_66 h dX1_stakeNow_66 (by decide) (Nat.le_of_ble_eq_true rfl) ?_
        exact g_iret h hr dX1_stakeNow_69 (by first | (simp [oStake, oSure, c4, c16, c56]; done) | (simp_all [oStake, oSure]; done)) rfl
    · refine g_aload_n h dX1_stakeNow_19 rfl ?_
      refine gf1_9 h (by omega) (by omega) dX1_stakeNow_20 ?_
      refine g_aload_n h dX1_stakeNow_23 rfl ?_
      refine g_iload_n h dX1_stakeNow_24 rfl ?_
      refine g_iload_n h dX1_stakeNow_25 rfl ?_
      refine cl1_59 h (by omega) (by omega) (ct_X1_slotOf (by omega) (by omega)) rfl dX1_stakeNow_26 rfl (Nat.le_of_ble_eq_true rfl) (by decide) ?_
      refine g_ialdT h (by omega) (by omega) (oSlot_in hg c16 _ _) dX1_stakeNow_29 ?_
      refine g_istore h dX1_stakeNow_30 (by rw [hL]; decide) ?_
      refine g_iload h dX1_stakeNow_32 rfl ?_
      refine g_ifeq h 43 dX1_stakeNow_34 (by decide) (fun c34 => ?_) (fun c34 => ?_)
      · refine g_iconst (v := 1) h dX1_stakeNow_43 (by decide) ?_
        refine g_goto h 48 dX1_stakeNow_44 (by decide) ?_
        refine g_istore h dX1_stakeNow_48 (by rw [hL]; decide) ?_
        refine g_aload_n h dX1_stakeNow_50 rfl ?_
        refine gf1_22 h (by omega) (by omega) dX1_stakeNow_51 ?_
        refine g_iload h dX1_stakeNow_54 rfl ?_
        refine g_ifeq h 65 dX1_stakeNow_56 (by decide) (fun c56 => ?_) (fun c56 => ?_)
        · refine g_iload_n h dX1_stakeNow_65 rfl ?_
          refine g_min1_66 h dX1_stakeNow_66 (by decide) (Nat.le_of_ble_eq_true rfl) ?_
          exact g_iret h hr dX1_stakeNow_69 (by first | (simp [oStake, oSure, c4, c16, c34, c56]; done) | (simp_all [oStake, oSure]; done)) rfl
        · refine g_iconst (v := 2) h dX1_stakeNow_59 (by decide) ?_
          refine g_iload_n h dX1_stakeNow_60 rfl ?_
          refine g_imul h dX1_stakeNow_61 ?_
          refine g_goto h 66 dX1_stakeNow_62 (by decide) ?_
          refine g_min1_66 h dX1_stakeNow_66 (by decide) (Nat.le_of_ble_eq_true rfl) ?_
          exact g_iret h hr dX1_stakeNow_69 (by first | (simp [oStake, oSure, c4, c16, c34, c56]; done) | (simp_all [oStake, oSure]; done)) rfl
      · refine g_iload h dX1_stakeNow_37 rfl ?_
        refine g_iconst (v := 3) h dX1_stakeNow_39 (by decide) ?_
        refine g_icne h 47 dX1_stakeNow_40 (by decide) (fun c40 => ?_) (fun c40 => ?_)
        · refine g_iconst (v := 0) h dX1_stakeNow_47 (by decide) ?_
          refine g_istore h dX1_stakeNow_48 (by rw [hL]; decide) ?_
          refine g_aload_n h dX1_stakeNow_50 rfl ?_
          refine gf1_22 h (by omega) (by omega) dX1_stakeNow_51 ?_
          refine g_iload h dX1_stakeNow_54 rfl ?_
          refine g_ifeq h 65 dX1_stakeNow_56 (by decide) (fun c56 => ?_) (fun c56 => ?_)
          · refine g_iload_n h dX1_stakeNow_65 rfl ?_
            refine g_min1_66 h dX1_stakeNow_66 (by decide) (Nat.le_of_ble_eq_true rfl) ?_
            exact g_iret h hr dX1_stakeNow_69 (by first | (simp [oStake, oSure, c4, c16, c34, c40, c56]; done) | (simp_all [oStake, oSure]; done)) rfl
          · refine g_iconst (v := 2) h dX1_stakeNow_59 (by decide) ?_
            refine g_iload_n h dX1_stakeNow_60 rfl ?_
            refine g_imul h dX1_stakeNow_61 ?_
            refine g_goto h 66 dX1_stakeNow_62 (by decide) ?_
            refine g_min1_66 h dX1_stakeNow_66 (by decide) (Nat.le_of_ble_eq_true rfl) ?_
            exact g_iret h hr dX1_stakeNow_69 (by first | (simp [oStake, oSure, c4, c16, c34, c40, c56]; done) | (simp_all [oStake, oSure]; done)) rfl
        · refine g_iconst (v := 1) h dX1_stakeNow_43 (by decide) ?_
          refine g_goto h 48 dX1_stakeNow_44 (by decide) ?_
          refine g_istore h dX1_stakeNow_48 (by rw [hL]; decide) ?_
          refine g_aload_n h dX1_stakeNow_50 rfl ?_
          refine gf1_22 h (by omega) (by omega) dX1_stakeNow_51 ?_
          refine g_iload h dX1_stakeNow_54 rfl ?_
          refine g_ifeq h 65 dX1_stakeNow_56 (by decide) (fun c56 => ?_) (fun c56 => ?_)
          · refine g_iload_n h dX1_stakeNow_65 rfl ?_
            refine g_min1_66 h dX1_stakeNow_66 (by decide) (Nat.le_of_ble_eq_true rfl) ?_
            exact g_iret h hr dX1_stakeNow_69 (by first | (simp [oStake, oSure, c4, c16, c34, c40, c56]; done) | (simp_all [oStake, oSure]; done)) rfl
          · refine g_iconst (v := 2) h dX1_stakeNow_59 (by decide) ?_
            refine g_iload_n h dX1_stakeNow_60 rfl ?_
            refine g_imul h dX1_stakeNow_61 ?_
            refine g_goto h 66 dX1_stakeNow_62 (by decide) ?_
            refine g_min1_66 h dX1_stakeNow_66 (by decide) (Nat.le_of_ble_eq_true rfl) ?_
            exact g_iret h hr dX1_stakeNow_69 (by first | (simp [oStake, oSure, c4, c16, c34, c40, c56]; done) | (simp_all [oStake, oSure]; done)) rfl
  · refine g_iconst (v := 0) h dX1_stakeNow_7 (by decide) ?_
    exact g_iret h hr dX1_stakeNow_8 (by first | (simp [oStake, oSure, c4]; done) | (simp_all [oStake, oSure]; done)) rfl

set_option maxRecDepth 100000 in
set_option maxHeartbeats 4000000 in
theorem ct_X1_learn {l : Launch} {X : fX} {σ : fM} {s i : Nat} (hs : s < 6) (hi : i < 6) {a k b : Int32} (hg : oGood (σ.1 (iO s i))) (ht : oTab (σ.1 (iO s i)) = true) : Ct l X yX1_learn cX1_learn 5 none 2 [ra X (iO s i), .int a, .int k, .int b] σ none (pu σ (iT s i) (oSlot (σ.1 (iO s i)) a b).toNatClampNeg (oLrn (σ.1 (iT s i) (oSlot (σ.1 (iO s i)) a b).toNatClampNeg) k)) := by
  refine Ct.of RX1 rfl (by decide) (Nat.le_of_ble_eq_true rfl) ?_
  intro x hL h hr
  refine g_sub [(0, ra X (iO s i)), (1, .int a), (2, .int k), (3, .int b)] ⟨rfl, rfl, rfl, rfl, trivial⟩ ?_
  refine g_aload_n h dX1_learn_0 rfl ?_
  refine g_iload_n h dX1_learn_1 rfl ?_
  refine g_iload_n h dX1_learn_2 rfl ?_
  refine cl1_59 h (by omega) (by omega) (ct_X1_slotOf (by omega) (by omega)) rfl dX1_learn_3 rfl (Nat.le_of_ble_eq_true rfl) (by decide) ?_
  refine g_istore h dX1_learn_6 (by rw [hL]; decide) ?_
  refine g_aload_n h dX1_learn_8 rfl ?_
  refine gf1_9 h (by omega) (by omega) dX1_learn_9 ?_
  refine g_iload h dX1_learn_12 rfl ?_
  refine g_iload_n h dX1_learn_14 rfl ?_
  refine g_iconst (v := 1) h dX1_learn_15 (by decide) ?_
  refine g_icne h 35 dX1_learn_16 (by decide) (fun c16 => ?_) (fun c16 => ?_)
  · refine g_iconst (v := 0) h dX1_learn_35 (by decide) ?_
    refine g_aload_n h dX1_learn_36 rfl ?_
    refine gf1_9 h (by omega) (by omega) dX1_learn_37 ?_
    refine g_iload h dX1_learn_40 rfl ?_
    refine g_ialdT h (by omega) (by omega) (oSlot_in hg ht _ _) dX1_learn_42 ?_
    refine g_iconst (v := 1) h dX1_learn_43 (by decide) ?_
    refine g_isub h dX1_learn_44 ?_
    refine g_max1_71 h dX1_learn_45 (by decide) (Nat.le_of_ble_eq_true rfl) ?_
    refine g_iastT h (by omega) (by omega) (oSlot_in hg ht _ _) dX1_learn_48 ?_
    exact g_vret h hr dX1_learn_49 (by first | (simp [oLrn, c16]; done) | (simp_all [oLrn]; done))
  · refine g_iconst (v := 3) h dX1_learn_19 (by decide) ?_
    refine g_aload_n h dX1_learn_20 rfl ?_
    refine gf1_9 h (by omega) (by omega) dX1_learn_21 ?_
    refine g_iload h dX1_learn_24 rfl ?_
    refine g_ialdT h (by omega) (by omega) (oSlot_in hg ht _ _) dX1_learn_26 ?_
    refine g_iconst (v := 1) h dX1_learn_27 (by decide) ?_
    refine g_iadd h dX1_learn_28 ?_
    refine g_min1_66 h dX1_learn_29 (by decide) (Nat.le_of_ble_eq_true rfl) ?_
    refine g_goto h 48 dX1_learn_32 (by decide) ?_
    refine g_iastT h (by omega) (by omega) (oSlot_in hg ht _ _) dX1_learn_48 ?_
    exact g_vret h hr dX1_learn_49 (by first | (simp [oLrn, c16]; done) | (simp_all [oLrn]; done))

set_option maxRecDepth 100000 in
set_option maxHeartbeats 4000000 in
theorem ct_X1_note {l : Launch} {X : fX} {σ : fM} {s i : Nat} (hs : s < 6) (hi : i < 6) {w : Int32} : Ct l X yX1_note cX1_note 2 none 1 [ra X (iO s i), .int w] σ none (puR σ (iO s i) (oNote (σ.1 (iO s i)) w)) := by
  refine Ct.of RX1 rfl (by decide) (Nat.le_of_ble_eq_true rfl) ?_
  intro x hL h hr
  refine g_sub [(0, ra X (iO s i)), (1, .int w)] ⟨rfl, rfl, trivial⟩ ?_
  refine g_iload_n h dX1_note_0 rfl ?_
  refine g_ifeq h 17 dX1_note_1 (by decide) (fun c1 => ?_) (fun c1 => ?_)
  · refine g_aload_n h dX1_note_17 rfl ?_
    refine g_dup h dX1_note_18 rfl ?_
    refine gf1_34 h (by omega) (by omega) dX1_note_19 ?_
    refine g_iconst (v := 1) h dX1_note_22 (by decide) ?_
    refine g_iadd h dX1_note_23 ?_
    refine gp1_34 h (by omega) (by omega) dX1_note_24 ?_
    refine g_aload_n h dX1_note_27 rfl ?_
    refine g_iconst (v := 2) h dX1_note_28 (by decide) ?_
    refine g_aload_n h dX1_note_29 rfl ?_
    refine gf1_37 h (by omega) (by omega) dX1_note_30 ?_
    refine g_imul h dX1_note_33 ?_
    refine g_iload_n h dX1_note_34 rfl ?_
    refine g_ifeq h 42 dX1_note_35 (by decide) (fun c35 => ?_) (fun c35 => ?_)
    · refine g_iconst (v := 0) h dX1_note_42 (by decide) ?_
      refine g_iadd h dX1_note_43 ?_
      refine g_ldc h (65535) (lw_in 385 (by decide +kernel) rfl) dX1_note_44 ?_
      refine g_iand h dX1_note_46 ?_
      refine gp1_37 h (by omega) (by omega) dX1_note_47 ?_
      refine g_aload_n h dX1_note_50 rfl ?_
      refine cl1_53 h (by omega) (by omega) (ct_X1_isRuined (by omega) (by omega)) rfl dX1_note_51 rfl (Nat.le_of_ble_eq_true rfl) (by decide) ?_
      refine g_ifeqB h 67 dX1_note_54 (by decide) (fun c54 => ?_) (fun c54 => ?_)
      · exact g_vret h hr dX1_note_67 (by simp_all [pu_puR, puR_puR, puR_self, oNote, oRuin, upd_s, upd_n])
      · refine g_aload_n h dX1_note_57 rfl ?_
        refine g_dup h dX1_note_58 rfl ?_
        refine gf1_40 h (by omega) (by omega) dX1_note_59 ?_
        refine g_iconst (v := 1) h dX1_note_62 (by decide) ?_
        refine g_iadd h dX1_note_63 ?_
        refine gp1_40 h (by omega) (by omega) dX1_note_64 ?_
        exact g_vret h hr dX1_note_67 (by simp_all [pu_puR, puR_puR, puR_self, oNote, oRuin, upd_s, upd_n])
    · refine g_iconst (v := 1) h dX1_note_38 (by decide) ?_
      refine g_goto h 43 dX1_note_39 (by decide) ?_
      refine g_iadd h dX1_note_43 ?_
      refine g_ldc h (65535) (lw_in 385 (by decide +kernel) rfl) dX1_note_44 ?_
      refine g_iand h dX1_note_46 ?_
      refine gp1_37 h (by omega) (by omega) dX1_note_47 ?_
      refine g_aload_n h dX1_note_50 rfl ?_
      refine cl1_53 h (by omega) (by omega) (ct_X1_isRuined (by omega) (by omega)) rfl dX1_note_51 rfl (Nat.le_of_ble_eq_true rfl) (by decide) ?_
      refine g_ifeqB h 67 dX1_note_54 (by decide) (fun c54 => ?_) (fun c54 => ?_)
      · exact g_vret h hr dX1_note_67 (by simp_all [pu_puR, puR_puR, puR_self, oNote, oRuin, upd_s, upd_n])
      · refine g_aload_n h dX1_note_57 rfl ?_
        refine g_dup h dX1_note_58 rfl ?_
        refine gf1_40 h (by omega) (by omega) dX1_note_59 ?_
        refine g_iconst (v := 1) h dX1_note_62 (by decide) ?_
        refine g_iadd h dX1_note_63 ?_
        refine gp1_40 h (by omega) (by omega) dX1_note_64 ?_
        exact g_vret h hr dX1_note_67 (by simp_all [pu_puR, puR_puR, puR_self, oNote, oRuin, upd_s, upd_n])
  · refine g_aload_n h dX1_note_4 rfl ?_
    refine g_dup h dX1_note_5 rfl ?_
    refine gf1_31 h (by omega) (by omega) dX1_note_6 ?_
    refine g_iconst (v := 1) h dX1_note_9 (by decide) ?_
    refine g_iadd h dX1_note_10 ?_
    refine gp1_31 h (by omega) (by omega) dX1_note_11 ?_
    refine g_goto h 27 dX1_note_14 (by decide) ?_
    refine g_aload_n h dX1_note_27 rfl ?_
    refine g_iconst (v := 2) h dX1_note_28 (by decide) ?_
    refine g_aload_n h dX1_note_29 rfl ?_
    refine gf1_37 h (by omega) (by omega) dX1_note_30 ?_
    refine g_imul h dX1_note_33 ?_
    refine g_iload_n h dX1_note_34 rfl ?_
    refine g_ifeq h 42 dX1_note_35 (by decide) (fun c35 => ?_) (fun c35 => ?_)
    · refine g_iconst (v := 0) h dX1_note_42 (by decide) ?_
      refine g_iadd h dX1_note_43 ?_
      refine g_ldc h (65535) (lw_in 385 (by decide +kernel) rfl) dX1_note_44 ?_
      refine g_iand h dX1_note_46 ?_
      refine gp1_37 h (by omega) (by omega) dX1_note_47 ?_
      refine g_aload_n h dX1_note_50 rfl ?_
      refine cl1_53 h (by omega) (by omega) (ct_X1_isRuined (by omega) (by omega)) rfl dX1_note_51 rfl (Nat.le_of_ble_eq_true rfl) (by decide) ?_
      refine g_ifeqB h 67 dX1_note_54 (by decide) (fun c54 => ?_) (fun c54 => ?_)
      · exact g_vret h hr dX1_note_67 (by simp_all [pu_puR, puR_puR, puR_self, oNote, oRuin, upd_s, upd_n])
      · refine g_aload_n h dX1_note_57 rfl ?_
        refine g_dup h dX1_note_58 rfl ?_
        refine gf1_40 h (by omega) (by omega) dX1_note_59 ?_
        refine g_iconst (v := 1) h dX1_note_62 (by decide) ?_
        refine g_iadd h dX1_note_63 ?_
        refine gp1_40 h (by omega) (by omega) dX1_note_64 ?_
        exact g_vret h hr dX1_note_67 (by simp_all [pu_puR, puR_puR, puR_self, oNote, oRuin, upd_s, upd_n])
    · refine g_iconst (v := 1) h dX1_note_38 (by decide) ?_
      refine g_goto h 43 dX1_note_39 (by decide) ?_
      refine g_iadd h dX1_note_43 ?_
      refine g_ldc h (65535) (lw_in 385 (by decide +kernel) rfl) dX1_note_44 ?_
      refine g_iand h dX1_note_46 ?_
      refine gp1_37 h (by omega) (by omega) dX1_note_47 ?_
      refine g_aload_n h dX1_note_50 rfl ?_
      refine cl1_53 h (by omega) (by omega) (ct_X1_isRuined (by omega) (by omega)) rfl dX1_note_51 rfl (Nat.le_of_ble_eq_true rfl) (by decide) ?_
      refine g_ifeqB h 67 dX1_note_54 (by decide) (fun c54 => ?_) (fun c54 => ?_)
      · exact g_vret h hr dX1_note_67 (by simp_all [pu_puR, puR_puR, puR_self, oNote, oRuin, upd_s, upd_n])
      · refine g_aload_n h dX1_note_57 rfl ?_
        refine g_dup h dX1_note_58 rfl ?_
        refine gf1_40 h (by omega) (by omega) dX1_note_59 ?_
        refine g_iconst (v := 1) h dX1_note_62 (by decide) ?_
        refine g_iadd h dX1_note_63 ?_
        refine gp1_40 h (by omega) (by omega) dX1_note_64 ?_
        exact g_vret h hr dX1_note_67 (by simp_all [pu_puR, puR_puR, puR_self, oNote, oRuin, upd_s, upd_n])

theorem oBegin_lp (σ : fM) (s i j : Nat) : pu (puR σ (iT s i) (fun k => if k < j then 1 else σ.1 (iT s i) k)) (iT s i) j 1 = puR σ (iT s i) (fun k => if k < j + 1 then 1 else σ.1 (iT s i) k) := by
  rw [pu_puR, puR_puR, puR_self]
  refine congrArg (puR σ _) ?_
  funext k
  unfold upd
  by_cases h1 : k = j
  · rw [if_pos h1, if_pos (by omega)]
  · rw [if_neg h1]
    show (if k < j then _ else _) = _
    by_cases h2 : k < j
    · rw [if_pos h2, if_pos (by omega)]
    · rw [if_neg h2, if_neg (by omega)]

set_option maxRecDepth 100000 in
set_option maxHeartbeats 4000000 in
theorem ct_X1_begin {l : Launch} {X : fX} {σ : fM} {s i : Nat} (hs : s < 6) (hi : i < 6) {k n p : Int32} : Ct l X yX1_begin cX1_begin 5 none 1 [ra X (iO s i), .int k, .int n, .int p] σ none (puR (puR σ (iO s i) (oBegin (σ.1 (iO s i)) k n p)) (iT s i) (fun q => if q < 32 then 1 else σ.1 (iT s i) q)) := by
  refine Ct.of RX1 rfl (by decide) (Nat.le_of_ble_eq_true rfl) ?_
  intro x hL h hr
  refine g_sub [(0, ra X (iO s i)), (1, .int k), (2, .int n), (3, .int p)] ⟨rfl, rfl, rfl, rfl, trivial⟩ ?_
  have LOOP : ∀ (q j : Nat), j + q = 32 → G x X (puR (puR σ (iO s i) (oBegin (σ.1 (iO s i)) k n p)) (iT s i) (fun q => if q < j then 1 else σ.1 (iT s i) q)) [(0, ra X (iO s i)), (4, .int (nI j))] [] 48 := by
    intro q
    induction q with
    | zero =>
      intro j hi 
      obtain rfl : j = 32 := by omega
      refine g_iload h dX1_begin_48 rfl ?_
      refine g_aload_n h dX1_begin_50 rfl ?_
      refine gf1_9 h (by omega) (by omega) dX1_begin_51 ?_
      refine g_alen h (iT_lt (by omega) (by omega)) (enc_T X (by omega) (by omega)) (t := 0) rfl dX1_begin_54 ?_
      refine g_icge h 72 dX1_begin_55 (by decide) (fun c55 => ?_) (fun c55 => absurd (Int32.le_refl _) c55)
      exact g_vret h hr dX1_begin_72 rfl
    | succ q ih =>
      intro j hi 
      have hlt : j < 32 := by omega
      refine g_iload h dX1_begin_48 rfl ?_
      refine g_aload_n h dX1_begin_50 rfl ?_
      refine gf1_9 h (by omega) (by omega) dX1_begin_51 ?_
      refine g_alen h (iT_lt (by omega) (by omega)) (enc_T X (by omega) (by omega)) (t := 0) rfl dX1_begin_54 ?_
      refine g_icge h 72 dX1_begin_55 (by decide) (fun c55 => absurd c55 (nI_ge hlt (by decide))) (fun c55 => ?_)
      refine g_aload_n h dX1_begin_58 rfl ?_
      refine gf1_9 h (by omega) (by omega) dX1_begin_59 ?_
      refine g_iload h dX1_begin_62 rfl ?_
      refine g_iconst (v := 1) h dX1_begin_64 (by decide) ?_
      refine g_iastN h (iT_lt (by omega) (by omega)) (enc_T X (by omega) (by omega)) rfl hlt (by decide) dX1_begin_65 ?_
      refine g_iincN h dX1_begin_66 rfl (by rw [hL]; decide) ?_
      refine g_goto h 48 dX1_begin_69 (by decide) ?_
      refine g_mem (puR (puR σ (iO s i) (oBegin (σ.1 (iO s i)) k n p)) (iT s i) (fun q => if q < j + 1 then 1 else σ.1 (iT s i) q)) (by have e := oBegin_lp (puR σ (iO s i) (oBegin (σ.1 (iO s i)) k n p)) s i j; rw [puR_ne _ (iO_T s i s i).symm] at e; exact e) ?_
      refine g_sub [(0, ra X (iO s i)), (4, .int (nI (j + 1)))] ⟨rfl, rfl, trivial⟩ ?_
      exact ih (j + 1) (by omega)
  refine g_aload_n h dX1_begin_0 rfl ?_
  refine g_iload_n h dX1_begin_1 rfl ?_
  refine gp1_15 h (by omega) (by omega) dX1_begin_2 ?_
  refine g_aload_n h dX1_begin_5 rfl ?_
  refine g_iload_n h dX1_begin_6 rfl ?_
  refine gp1_19 h (by omega) (by omega) dX1_begin_7 ?_
  refine g_aload_n h dX1_begin_10 rfl ?_
  refine g_iload_n h dX1_begin_11 rfl ?_
  refine gp1_22 h (by omega) (by omega) dX1_begin_12 ?_
  refine g_aload_n h dX1_begin_15 rfl ?_
  refine g_iconst (v := (-1)) h dX1_begin_16 (by decide) ?_
  refine gp1_25 h (by omega) (by omega) dX1_begin_17 ?_
  refine g_aload_n h dX1_begin_20 rfl ?_
  refine g_iconst (v := (-1)) h dX1_begin_21 (by decide) ?_
  refine gp1_28 h (by omega) (by omega) dX1_begin_22 ?_
  refine g_aload_n h dX1_begin_25 rfl ?_
  refine g_iconst (v := 0) h dX1_begin_26 (by decide) ?_
  refine gp1_31 h (by omega) (by omega) dX1_begin_27 ?_
  refine g_aload_n h dX1_begin_30 rfl ?_
  refine g_iconst (v := 0) h dX1_begin_31 (by decide) ?_
  refine gp1_34 h (by omega) (by omega) dX1_begin_32 ?_
  refine g_aload_n h dX1_begin_35 rfl ?_
  refine g_iconst (v := 0) h dX1_begin_36 (by decide) ?_
  refine gp1_37 h (by omega) (by omega) dX1_begin_37 ?_
  refine g_aload_n h dX1_begin_40 rfl ?_
  refine g_iconst (v := 0) h dX1_begin_41 (by decide) ?_
  refine gp1_40 h (by omega) (by omega) dX1_begin_42 ?_
  refine g_iconst (v := 0) h dX1_begin_45 (by decide) ?_
  refine g_istore h dX1_begin_46 (by rw [hL]; decide) ?_
  refine g_mem (puR (puR σ (iO s i) (oBegin (σ.1 (iO s i)) k n p)) (iT s i) (fun q => if q < 0 then 1 else σ.1 (iT s i) q)) ?_ ?_
  · simp only [pu_puR, puR_puR, puR_self, oBegin]; exact (puR_id _ _).symm.trans (congrArg (puR _ _) (by funext q; simp [puR_ne _ (iO_T s i s i).symm]))
  refine g_sub [(0, ra X (iO s i)), (4, .int (nI 0))] ⟨rfl, lk_0, trivial⟩ ?_
  exact LOOP 32 0 (by omega)
set_option maxRecDepth 100000 in
set_option maxHeartbeats 4000000 in
theorem ct_X1_copyFrom {l : Launch} {X : fX} {σ : fM} {s i s2 i2 : Nat} (hs : s < 6) (hi : i < 6) (hs2 : s2 < 6) (hi2 : i2 < 6) (hne : iO s2 i2 ≠ iO s i) : Ct l X yX1_copyFrom cX1_copyFrom 2 none 1 [ra X (iO s i), ra X (iO s2 i2)] σ none (puR (puR σ (iO s i) (oCopy (σ.1 (iO s2 i2)) (σ.1 (iO s i)))) (iT s i) (cpy (σ.1 (iT s2 i2)) (σ.1 (iT s i)) 32)) := by
  refine Ct.of RX1 rfl (by decide) (Nat.le_of_ble_eq_true rfl) ?_
  intro x hL h hr
  refine g_sub [(0, ra X (iO s i)), (1, ra X (iO s2 i2))] ⟨rfl, rfl, trivial⟩ ?_
  refine g_aload_n h dX1_copyFrom_0 rfl ?_
  refine g_aload_n h dX1_copyFrom_1 rfl ?_
  refine gf1_15 h (by omega) (by omega) dX1_copyFrom_2 ?_
  refine gp1_15 h (by omega) (by omega) dX1_copyFrom_5 ?_
  refine g_aload_n h dX1_copyFrom_8 rfl ?_
  refine g_aload_n h dX1_copyFrom_9 rfl ?_
  refine gf1_19 h (by omega) (by omega) dX1_copyFrom_10 ?_
  refine gp1_19 h (by omega) (by omega) dX1_copyFrom_13 ?_
  refine g_aload_n h dX1_copyFrom_16 rfl ?_
  refine g_aload_n h dX1_copyFrom_17 rfl ?_
  refine gf1_22 h (by omega) (by omega) dX1_copyFrom_18 ?_
  refine gp1_22 h (by omega) (by omega) dX1_copyFrom_21 ?_
  refine g_aload_n h dX1_copyFrom_24 rfl ?_
  refine g_aload_n h dX1_copyFrom_25 rfl ?_
  refine gf1_25 h (by omega) (by omega) dX1_copyFrom_26 ?_
  refine gp1_25 h (by omega) (by omega) dX1_copyFrom_29 ?_
  refine g_aload_n h dX1_copyFrom_32 rfl ?_
  refine g_aload_n h dX1_copyFrom_33 rfl ?_
  refine gf1_28 h (by omega) (by omega) dX1_copyFrom_34 ?_
  refine gp1_28 h (by omega) (by omega) dX1_copyFrom_37 ?_
  refine g_aload_n h dX1_copyFrom_40 rfl ?_
  refine g_aload_n h dX1_copyFrom_41 rfl ?_
  refine gf1_31 h (by omega) (by omega) dX1_copyFrom_42 ?_
  refine gp1_31 h (by omega) (by omega) dX1_copyFrom_45 ?_
  refine g_aload_n h dX1_copyFrom_48 rfl ?_
  refine g_aload_n h dX1_copyFrom_49 rfl ?_
  refine gf1_34 h (by omega) (by omega) dX1_copyFrom_50 ?_
  refine gp1_34 h (by omega) (by omega) dX1_copyFrom_53 ?_
  refine g_aload_n h dX1_copyFrom_56 rfl ?_
  refine g_aload_n h dX1_copyFrom_57 rfl ?_
  refine gf1_37 h (by omega) (by omega) dX1_copyFrom_58 ?_
  refine gp1_37 h (by omega) (by omega) dX1_copyFrom_61 ?_
  refine g_aload_n h dX1_copyFrom_64 rfl ?_
  refine g_aload_n h dX1_copyFrom_65 rfl ?_
  refine gf1_40 h (by omega) (by omega) dX1_copyFrom_66 ?_
  refine gp1_40 h (by omega) (by omega) dX1_copyFrom_69 ?_
  refine g_aload_n h dX1_copyFrom_72 rfl ?_
  refine gf1_9 h (by omega) (by omega) dX1_copyFrom_73 ?_
  refine g_iconst (v := 0) h dX1_copyFrom_76 (by decide) ?_
  refine g_aload_n h dX1_copyFrom_77 rfl ?_
  refine gf1_9 h (by omega) (by omega) dX1_copyFrom_78 ?_
  refine g_iconst (v := 0) h dX1_copyFrom_81 (by decide) ?_
  refine g_bipush (v := 32) h dX1_copyFrom_82 (by decide) ?_
  refine g_copy h (k0 := iT s2 i2) (k1 := iT s i) (n := 32) (lw_in 250 (by decide +kernel) rfl) (iT_lt hs2 hi2) (iT_lt hs hi) (enc_T X hs2 hi2) (enc_T X hs hi) nI_0.symm nI_0.symm (by decide) (Nat.le_refl _) (Nat.le_refl _) (by decide) dX1_copyFrom_84 (by decide) (Nat.le_of_ble_eq_true rfl) ?_
  exact g_vret h hr dX1_copyFrom_87 (by simp only [pu_puR, puR_puR, puR_self, puR_ne _ hne, puR_ne _ (iO_T s i s2 i2).symm, puR_ne _ (iO_T s i s i).symm, oCopy])

set_option maxRecDepth 100000 in
set_option maxHeartbeats 4000000 in
theorem ct_X0_copyFrom {l : Launch} {X : fX} {σ : fM} {s i s2 i2 : Nat} (hs : s < 6) (hi : i < 8) (hs2 : s2 < 6) (hi2 : i2 < 8) (hne : iL s2 i2 ≠ iL s i) : Ct l X yX0_copyFrom cX0_copyFrom 2 none 0 [ra X (iL s i), ra X (iL s2 i2)] σ none (puR σ (iL s i) (lCopy (σ.1 (iL s2 i2)) (σ.1 (iL s i)))) := by
  refine Ct.of RX0 rfl (by decide) (Nat.le_of_ble_eq_true rfl) ?_
  intro x hL h hr
  refine g_sub [(0, ra X (iL s i)), (1, ra X (iL s2 i2))] ⟨rfl, rfl, trivial⟩ ?_
  refine g_aload_n h dX0_copyFrom_0 rfl ?_
  refine g_aload_n h dX0_copyFrom_1 rfl ?_
  refine gf0_7 h (by omega) (by omega) dX0_copyFrom_2 ?_
  refine gp0_7 h (by omega) (by omega) dX0_copyFrom_5 ?_
  refine g_aload_n h dX0_copyFrom_8 rfl ?_
  refine g_aload_n h dX0_copyFrom_9 rfl ?_
  refine gf0_13 h (by omega) (by omega) dX0_copyFrom_10 ?_
  refine gp0_13 h (by omega) (by omega) dX0_copyFrom_13 ?_
  refine g_aload_n h dX0_copyFrom_16 rfl ?_
  refine g_aload_n h dX0_copyFrom_17 rfl ?_
  refine gf0_16 h (by omega) (by omega) dX0_copyFrom_18 ?_
  refine gp0_16 h (by omega) (by omega) dX0_copyFrom_21 ?_
  exact g_vret h hr dX0_copyFrom_24 (by simp only [pu_puR, puR_puR, puR_self, puR_ne _ hne, lCopy])
end
section
/-! State: what is only read. n oracles, m loans stand in the state s -/
/-- f 0 + f 1 + .. + f (n - 1), behind a -/
def sumF (a : Int32) (f : Nat → Int32) : Nat → Int32
  | 0 => a
  | n + 1 => sumF a f n + f n
def anyF (f : Nat → Bool) : Nat → Bool
  | 0 => false
  | n + 1 => anyF f n || f n
theorem anyF_t {f : Nat → Bool} {i : Nat} : ∀ {n : Nat}, i < n → f i = true → anyF f n = true
  | 0, h, _ => absurd h (Nat.not_lt_zero _)
  | n + 1, h, e => by
    unfold anyF
    by_cases hi : i = n
    · subst hi; rw [e]; simp
    · rw [anyF_t (by omega) e]; simp
/-- n oracles, m loans -/
def cnt (σ : fM) (s n m : Nat) : Prop := σ.1 (iS s) 3 = nI n ∧ σ.1 (iS s) 4 = nI m ∧ n ≤ 6 ∧ m ≤ 8
theorem lg_cmp_eq0 (a b : Int64) : lg_cmp a b = 0 ↔ a = b := by
  unfold lg_cmp
  by_cases h1 : a > b
  · rw [if_pos h1]
    exact ⟨fun h => absurd h (by decide), fun h => absurd h1 (by rw [h]; intro z; exact Int64.lt_irrefl z)⟩
  · rw [if_neg h1]
    by_cases h2 : a = b
    · rw [if_pos h2]; simp [h2]
    · rw [if_neg h2]; simp [h2]

set_option maxRecDepth 100000 in
set_option maxHeartbeats 4000000 in
theorem ct_X3_sittersOf {l : Launch} {X : fX} {σ : fM} {s n m : Nat} (hs : s < 6) (hc : cnt σ s n m) {b : Int32} : Ct l X yX3_sittersOf cX3_sittersOf 4 (some .int) 0 [ra X (iS s), .int b] σ (some (.int (sumF 0 (fun i => if σ.1 (iO s i) 3 = b then 1 else 0) n))) σ := by
  refine Ct.of RX3 rfl (by decide) (Nat.le_of_ble_eq_true rfl) ?_
  intro x hL h hr
  refine g_sub [(0, ra X (iS s)), (1, .int b)] ⟨rfl, rfl, trivial⟩ ?_
  obtain ⟨hn, hm, hn6, hm8⟩ := hc
  have LOOP : ∀ (q i : Nat), i + q = n → G x X σ [(0, ra X (iS s)), (1, .int b), (2, .int (sumF 0 (fun i => if σ.1 (iO s i) 3 = b then 1 else 0) i)), (3, .int (nI i))] [] 4 := by
    intro q
    induction q with
    | zero =>
      intro i hi 
      obtain rfl : i = n := by omega
      refine g_iload_n h dX3_sittersOf_4 rfl ?_
      refine g_aload_n h dX3_sittersOf_5 rfl ?_
      refine gf3_32 h (by omega) dX3_sittersOf_6 ?_
      refine g_icge h 34 dX3_sittersOf_9 (by decide) (fun c9 => ?_) (fun c9 => absurd (by rw [hn]; exact Int32.le_refl _) c9)
      refine g_iload_n h dX3_sittersOf_34 rfl ?_
      exact g_iret h hr dX3_sittersOf_35 rfl rfl
    | succ q ih =>
      intro i hi 
      have hlt : i < n := by omega
      refine g_iload_n h dX3_sittersOf_4 rfl ?_
      refine g_aload_n h dX3_sittersOf_5 rfl ?_
      refine gf3_32 h (by omega) dX3_sittersOf_6 ?_
      refine g_icge h 34 dX3_sittersOf_9 (by decide) (fun c9 => absurd c9 (by rw [hn]; exact nI_ge hlt (by omega))) (fun c9 => ?_)
      refine g_aload_n h dX3_sittersOf_12 rfl ?_
      refine gf3_11 h (by omega) dX3_sittersOf_13 ?_
      refine g_iload_n h dX3_sittersOf_16 rfl ?_
      refine g_aaldO h (by omega) rfl (by omega) dX3_sittersOf_17 ?_
      refine gf3_68 h (by omega) (by omega) dX3_sittersOf_18 ?_
      refine g_iload_n h dX3_sittersOf_21 rfl ?_
      refine g_icne h 28 dX3_sittersOf_22 (by decide) (fun c22 => ?_) (fun c22 => ?_)
      · refine g_iincN h dX3_sittersOf_28 rfl (by rw [hL]; decide) ?_
        refine g_goto h 4 dX3_sittersOf_31 (by decide) ?_
        refine g_sub [(0, ra X (iS s)), (1, .int b), (2, .int (sumF 0 (fun i => if σ.1 (iO s i) 3 = b then 1 else 0) (i + 1))), (3, .int (nI (i + 1)))] ⟨rfl, rfl, (congrArg (fun z => some (Value.int z)) (by simp [sumF, c9, c22])), rfl, trivial⟩ ?_
        exact ih (i + 1) (by omega)
      · refine g_iinc1 h dX3_sittersOf_25 rfl (by rw [hL]; decide) ?_
        refine g_iincN h dX3_sittersOf_28 rfl (by rw [hL]; decide) ?_
        refine g_goto h 4 dX3_sittersOf_31 (by decide) ?_
        refine g_sub [(0, ra X (iS s)), (1, .int b), (2, .int (sumF 0 (fun i => if σ.1 (iO s i) 3 = b then 1 else 0) (i + 1))), (3, .int (nI (i + 1)))] ⟨rfl, rfl, (congrArg (fun z => some (Value.int z)) (by simp [sumF, c9, c22])), rfl, trivial⟩ ?_
        exact ih (i + 1) (by omega)
  refine g_iconst (v := 0) h dX3_sittersOf_0 (by decide) ?_
  refine g_istore_n h dX3_sittersOf_1 (by rw [hL]; decide) ?_
  refine g_iconst (v := 0) h dX3_sittersOf_2 (by decide) ?_
  refine g_istore_n h dX3_sittersOf_3 (by rw [hL]; decide) ?_
  refine g_sub [(0, ra X (iS s)), (1, .int b), (2, .int (sumF 0 (fun i => if σ.1 (iO s i) 3 = b then 1 else 0) 0)), (3, .int (nI 0))] ⟨rfl, rfl, rfl, lk_0, trivial⟩ ?_
  exact LOOP n 0 (by omega)
set_option maxRecDepth 100000 in
set_option maxHeartbeats 4000000 in
theorem ct_X3_seatedOracles {l : Launch} {X : fX} {σ : fM} {s n m : Nat} (hs : s < 6) (hc : cnt σ s n m) : Ct l X yX3_seatedOracles cX3_seatedOracles 3 (some .int) 1 [ra X (iS s)] σ (some (.int (sumF 0 (fun i => if oSeat (σ.1 (iO s i)) = true then 1 else 0) n))) σ := by
  refine Ct.of RX3 rfl (by decide) (Nat.le_of_ble_eq_true rfl) ?_
  intro x hL h hr
  refine g_sub [(0, ra X (iS s))] ⟨rfl, trivial⟩ ?_
  obtain ⟨hn, hm, hn6, hm8⟩ := hc
  have LOOP : ∀ (q i : Nat), i + q = n → G x X σ [(0, ra X (iS s)), (1, .int (sumF 0 (fun i => if oSeat (σ.1 (iO s i)) = true then 1 else 0) i)), (2, .int (nI i))] [] 4 := by
    intro q
    induction q with
    | zero =>
      intro i hi 
      obtain rfl : i = n := by omega
      refine g_iload_n h dX3_seatedOracles_4 rfl ?_
      refine g_aload_n h dX3_seatedOracles_5 rfl ?_
      refine gf3_32 h (by omega) dX3_seatedOracles_6 ?_
      refine g_icge h 33 dX3_seatedOracles_9 (by decide) (fun c9 => ?_) (fun c9 => absurd (by rw [hn]; exact Int32.le_refl _) c9)
      refine g_iload_n h dX3_seatedOracles_33 rfl ?_
      exact g_iret h hr dX3_seatedOracles_34 rfl rfl
    | succ q ih =>
      intro i hi 
      have hlt : i < n := by omega
      refine g_iload_n h dX3_seatedOracles_4 rfl ?_
      refine g_aload_n h dX3_seatedOracles_5 rfl ?_
      refine gf3_32 h (by omega) dX3_seatedOracles_6 ?_
      refine g_icge h 33 dX3_seatedOracles_9 (by decide) (fun c9 => absurd c9 (by rw [hn]; exact nI_ge hlt (by omega))) (fun c9 => ?_)
      refine g_aload_n h dX3_seatedOracles_12 rfl ?_
      refine gf3_11 h (by omega) dX3_seatedOracles_13 ?_
      refine g_iload_n h dX3_seatedOracles_16 rfl ?_
      refine g_aaldO h (by omega) rfl (by omega) dX3_seatedOracles_17 ?_
      refine cl3_78 h (by omega) (by omega) (ct_X1_hasSeat (by omega) (by omega)) rfl dX3_seatedOracles_18 rfl (Nat.le_of_ble_eq_true rfl) (by decide) ?_
      refine g_ifeqB h 27 dX3_seatedOracles_21 (by decide) (fun c21 => ?_) (fun c21 => ?_)
      · refine g_iincN h dX3_seatedOracles_27 rfl (by rw [hL]; decide) ?_
        refine g_goto h 4 dX3_seatedOracles_30 (by decide) ?_
        refine g_sub [(0, ra X (iS s)), (1, .int (sumF 0 (fun i => if oSeat (σ.1 (iO s i)) = true then 1 else 0) (i + 1))), (2, .int (nI (i + 1)))] ⟨rfl, (congrArg (fun z => some (Value.int z)) (by simp [sumF, c9, c21])), rfl, trivial⟩ ?_
        exact ih (i + 1) (by omega)
      · refine g_iinc1 h dX3_seatedOracles_24 rfl (by rw [hL]; decide) ?_
        refine g_iincN h dX3_seatedOracles_27 rfl (by rw [hL]; decide) ?_
        refine g_goto h 4 dX3_seatedOracles_30 (by decide) ?_
        refine g_sub [(0, ra X (iS s)), (1, .int (sumF 0 (fun i => if oSeat (σ.1 (iO s i)) = true then 1 else 0) (i + 1))), (2, .int (nI (i + 1)))] ⟨rfl, (congrArg (fun z => some (Value.int z)) (by simp [sumF, c9, c21])), rfl, trivial⟩ ?_
        exact ih (i + 1) (by omega)
  refine g_iconst (v := 0) h dX3_seatedOracles_0 (by decide) ?_
  refine g_istore_n h dX3_seatedOracles_1 (by rw [hL]; decide) ?_
  refine g_iconst (v := 0) h dX3_seatedOracles_2 (by decide) ?_
  refine g_istore_n h dX3_seatedOracles_3 (by rw [hL]; decide) ?_
  refine g_sub [(0, ra X (iS s)), (1, .int (sumF 0 (fun i => if oSeat (σ.1 (iO s i)) = true then 1 else 0) 0)), (2, .int (nI 0))] ⟨rfl, rfl, lk_0, trivial⟩ ?_
  exact LOOP n 0 (by omega)
set_option maxRecDepth 100000 in
set_option maxHeartbeats 4000000 in
theorem ct_X3_ruinedOracles {l : Launch} {X : fX} {σ : fM} {s n m : Nat} (hs : s < 6) (hc : cnt σ s n m) : Ct l X yX3_ruinedOracles cX3_ruinedOracles 3 (some .int) 1 [ra X (iS s)] σ (some (.int (sumF 0 (fun i => if oRuin (σ.1 (iO s i)) = true then 1 else 0) n))) σ := by
  refine Ct.of RX3 rfl (by decide) (Nat.le_of_ble_eq_true rfl) ?_
  intro x hL h hr
  refine g_sub [(0, ra X (iS s))] ⟨rfl, trivial⟩ ?_
  obtain ⟨hn, hm, hn6, hm8⟩ := hc
  have LOOP : ∀ (q i : Nat), i + q = n → G x X σ [(0, ra X (iS s)), (1, .int (sumF 0 (fun i => if oRuin (σ.1 (iO s i)) = true then 1 else 0) i)), (2, .int (nI i))] [] 4 := by
    intro q
    induction q with
    | zero =>
      intro i hi 
      obtain rfl : i = n := by omega
      refine g_iload_n h dX3_ruinedOracles_4 rfl ?_
      refine g_aload_n h dX3_ruinedOracles_5 rfl ?_
      refine gf3_32 h (by omega) dX3_ruinedOracles_6 ?_
      refine g_icge h 33 dX3_ruinedOracles_9 (by decide) (fun c9 => ?_) (fun c9 => absurd (by rw [hn]; exact Int32.le_refl _) c9)
      refine g_iload_n h dX3_ruinedOracles_33 rfl ?_
      exact g_iret h hr dX3_ruinedOracles_34 rfl rfl
    | succ q ih =>
      intro i hi 
      have hlt : i < n := by omega
      refine g_iload_n h dX3_ruinedOracles_4 rfl ?_
      refine g_aload_n h dX3_ruinedOracles_5 rfl ?_
      refine gf3_32 h (by omega) dX3_ruinedOracles_6 ?_
      refine g_icge h 33 dX3_ruinedOracles_9 (by decide) (fun c9 => absurd c9 (by rw [hn]; exact nI_ge hlt (by omega))) (fun c9 => ?_)
      refine g_aload_n h dX3_ruinedOracles_12 rfl ?_
      refine gf3_11 h (by omega) dX3_ruinedOracles_13 ?_
      refine g_iload_n h dX3_ruinedOracles_16 rfl ?_
      refine g_aaldO h (by omega) rfl (by omega) dX3_ruinedOracles_17 ?_
      refine cl3_82 h (by omega) (by omega) (ct_X1_isRuined (by omega) (by omega)) rfl dX3_ruinedOracles_18 rfl (Nat.le_of_ble_eq_true rfl) (by decide) ?_
      refine g_ifeqB h 27 dX3_ruinedOracles_21 (by decide) (fun c21 => ?_) (fun c21 => ?_)
      · refine g_iincN h dX3_ruinedOracles_27 rfl (by rw [hL]; decide) ?_
        refine g_goto h 4 dX3_ruinedOracles_30 (by decide) ?_
        refine g_sub [(0, ra X (iS s)), (1, .int (sumF 0 (fun i => if oRuin (σ.1 (iO s i)) = true then 1 else 0) (i + 1))), (2, .int (nI (i + 1)))] ⟨rfl, (congrArg (fun z => some (Value.int z)) (by simp [sumF, c9, c21])), rfl, trivial⟩ ?_
        exact ih (i + 1) (by omega)
      · refine g_iinc1 h dX3_ruinedOracles_24 rfl (by rw [hL]; decide) ?_
        refine g_iincN h dX3_ruinedOracles_27 rfl (by rw [hL]; decide) ?_
        refine g_goto h 4 dX3_ruinedOracles_30 (by decide) ?_
        refine g_sub [(0, ra X (iS s)), (1, .int (sumF 0 (fun i => if oRuin (σ.1 (iO s i)) = true then 1 else 0) (i + 1))), (2, .int (nI (i + 1)))] ⟨rfl, (congrArg (fun z => some (Value.int z)) (by simp [sumF, c9, c21])), rfl, trivial⟩ ?_
        exact ih (i + 1) (by omega)
  refine g_iconst (v := 0) h dX3_ruinedOracles_0 (by decide) ?_
  refine g_istore_n h dX3_ruinedOracles_1 (by rw [hL]; decide) ?_
  refine g_iconst (v := 0) h dX3_ruinedOracles_2 (by decide) ?_
  refine g_istore_n h dX3_ruinedOracles_3 (by rw [hL]; decide) ?_
  refine g_sub [(0, ra X (iS s)), (1, .int (sumF 0 (fun i => if oRuin (σ.1 (iO s i)) = true then 1 else 0) 0)), (2, .int (nI 0))] ⟨rfl, rfl, lk_0, trivial⟩ ?_
  exact LOOP n 0 (by omega)
set_option maxRecDepth 100000 in
set_option maxHeartbeats 4000000 in
theorem ct_X3_allCoins {l : Launch} {X : fX} {σ : fM} {s n m : Nat} (hs : s < 6) (hc : cnt σ s n m) : Ct l X yX3_allCoins cX3_allCoins 3 (some .int) 0 [ra X (iS s)] σ (some (.int (sumF (σ.1 (iS s) 5) (fun i => σ.1 (iO s i) 2) n))) σ := by
  refine Ct.of RX3 rfl (by decide) (Nat.le_of_ble_eq_true rfl) ?_
  intro x hL h hr
  refine g_sub [(0, ra X (iS s))] ⟨rfl, trivial⟩ ?_
  obtain ⟨hn, hm, hn6, hm8⟩ := hc
  have LOOP : ∀ (q i : Nat), i + q = n → G x X σ [(0, ra X (iS s)), (1, .int (sumF (σ.1 (iS s) 5) (fun i => σ.1 (iO s i) 2) i)), (2, .int (nI i))] [] 7 := by
    intro q
    induction q with
    | zero =>
      intro i hi 
      obtain rfl : i = n := by omega
      refine g_iload_n h dX3_allCoins_7 rfl ?_
      refine g_aload_n h dX3_allCoins_8 rfl ?_
      refine gf3_32 h (by omega) dX3_allCoins_9 ?_
      refine g_icge h 33 dX3_allCoins_12 (by decide) (fun c12 => ?_) (fun c12 => absurd (by rw [hn]; exact Int32.le_refl _) c12)
      refine g_iload_n h dX3_allCoins_33 rfl ?_
      exact g_iret h hr dX3_allCoins_34 rfl rfl
    | succ q ih =>
      intro i hi 
      have hlt : i < n := by omega
      refine g_iload_n h dX3_allCoins_7 rfl ?_
      refine g_aload_n h dX3_allCoins_8 rfl ?_
      refine gf3_32 h (by omega) dX3_allCoins_9 ?_
      refine g_icge h 33 dX3_allCoins_12 (by decide) (fun c12 => absurd c12 (by rw [hn]; exact nI_ge hlt (by omega))) (fun c12 => ?_)
      refine g_iload_n h dX3_allCoins_15 rfl ?_
      refine g_aload_n h dX3_allCoins_16 rfl ?_
      refine gf3_11 h (by omega) dX3_allCoins_17 ?_
      refine g_iload_n h dX3_allCoins_20 rfl ?_
      refine g_aaldO h (by omega) rfl (by omega) dX3_allCoins_21 ?_
      refine gf3_85 h (by omega) (by omega) dX3_allCoins_22 ?_
      refine g_iadd h dX3_allCoins_25 ?_
      refine g_istore_n h dX3_allCoins_26 (by rw [hL]; decide) ?_
      refine g_iincN h dX3_allCoins_27 rfl (by rw [hL]; decide) ?_
      refine g_goto h 7 dX3_allCoins_30 (by decide) ?_
      refine g_sub [(0, ra X (iS s)), (1, .int (sumF (σ.1 (iS s) 5) (fun i => σ.1 (iO s i) 2) (i + 1))), (2, .int (nI (i + 1)))] ⟨rfl, (congrArg (fun z => some (Value.int z)) (by simp [sumF, c12])), rfl, trivial⟩ ?_
      exact ih (i + 1) (by omega)
  refine g_aload_n h dX3_allCoins_0 rfl ?_
  refine gf3_52 h (by omega) dX3_allCoins_1 ?_
  refine g_istore_n h dX3_allCoins_4 (by rw [hL]; decide) ?_
  refine g_iconst (v := 0) h dX3_allCoins_5 (by decide) ?_
  refine g_istore_n h dX3_allCoins_6 (by rw [hL]; decide) ?_
  refine g_sub [(0, ra X (iS s)), (1, .int (sumF (σ.1 (iS s) 5) (fun i => σ.1 (iO s i) 2) 0)), (2, .int (nI 0))] ⟨rfl, rfl, lk_0, trivial⟩ ?_
  exact LOOP n 0 (by omega)
set_option maxRecDepth 100000 in
set_option maxHeartbeats 4000000 in
theorem ct_X3_debtsOf {l : Launch} {X : fX} {σ : fM} {s n m : Nat} (hs : s < 6) (hc : cnt σ s n m) {b : Int32} : Ct l X yX3_debtsOf cX3_debtsOf 4 (some .int) 0 [ra X (iS s), .int b] σ (some (.int (sumF 0 (fun i => if σ.1 (iL s i) 1 = b then σ.1 (iL s i) 2 else 0) m))) σ := by
  refine Ct.of RX3 rfl (by decide) (Nat.le_of_ble_eq_true rfl) ?_
  intro x hL h hr
  refine g_sub [(0, ra X (iS s)), (1, .int b)] ⟨rfl, rfl, trivial⟩ ?_
  obtain ⟨hn, hm, hn6, hm8⟩ := hc
  have LOOP : ∀ (q i : Nat), i + q = m → G x X σ [(0, ra X (iS s)), (1, .int b), (2, .int (sumF 0 (fun i => if σ.1 (iL s i) 1 = b then σ.1 (iL s i) 2 else 0) i)), (3, .int (nI i))] [] 4 := by
    intro q
    induction q with
    | zero =>
      intro i hi 
      obtain rfl : i = m := by omega
      refine g_iload_n h dX3_debtsOf_4 rfl ?_
      refine g_aload_n h dX3_debtsOf_5 rfl ?_
      refine gf3_40 h (by omega) dX3_debtsOf_6 ?_
      refine g_icge h 43 dX3_debtsOf_9 (by decide) (fun c9 => ?_) (fun c9 => absurd (by rw [hm]; exact Int32.le_refl _) c9)
      refine g_iload_n h dX3_debtsOf_43 rfl ?_
      exact g_iret h hr dX3_debtsOf_44 rfl rfl
    | succ q ih =>
      intro i hi 
      have hlt : i < m := by omega
      refine g_iload_n h dX3_debtsOf_4 rfl ?_
      refine g_aload_n h dX3_debtsOf_5 rfl ?_
      refine gf3_40 h (by omega) dX3_debtsOf_6 ?_
      refine g_icge h 43 dX3_debtsOf_9 (by decide) (fun c9 => absurd c9 (by rw [hm]; exact nI_ge hlt (by omega))) (fun c9 => ?_)
      refine g_aload_n h dX3_debtsOf_12 rfl ?_
      refine gf3_20 h (by omega) dX3_debtsOf_13 ?_
      refine g_iload_n h dX3_debtsOf_16 rfl ?_
      refine g_aaldL h (by omega) rfl (by omega) dX3_debtsOf_17 ?_
      refine gf3_91 h (by omega) (by omega) dX3_debtsOf_18 ?_
      refine g_iload_n h dX3_debtsOf_21 rfl ?_
      refine g_icne h 37 dX3_debtsOf_22 (by decide) (fun c22 => ?_) (fun c22 => ?_)
      · refine g_iincN h dX3_debtsOf_37 rfl (by rw [hL]; decide) ?_
        refine g_goto h 4 dX3_debtsOf_40 (by decide) ?_
        refine g_sub [(0, ra X (iS s)), (1, .int b), (2, .int (sumF 0 (fun i => if σ.1 (iL s i) 1 = b then σ.1 (iL s i) 2 else 0) (i + 1))), (3, .int (nI (i + 1)))] ⟨rfl, rfl, (congrArg (fun z => some (Value.int z)) (by simp [sumF, c9, c22])), rfl, trivial⟩ ?_
        exact ih (i + 1) (by omega)
      · refine g_iload_n h dX3_debtsOf_25 rfl ?_
        refine g_aload_n h dX3_debtsOf_26 rfl ?_
        refine gf3_20 h (by omega) dX3_debtsOf_27 ?_
        refine g_iload_n h dX3_debtsOf_30 rfl ?_
        refine g_aaldL h (by omega) rfl (by omega) dX3_debtsOf_31 ?_
        refine gf3_94 h (by omega) (by omega) dX3_debtsOf_32 ?_
        refine g_iadd h dX3_debtsOf_35 ?_
        refine g_istore_n h dX3_debtsOf_36 (by rw [hL]; decide) ?_
        refine g_iincN h dX3_debtsOf_37 rfl (by rw [hL]; decide) ?_
        refine g_goto h 4 dX3_debtsOf_40 (by decide) ?_
        refine g_sub [(0, ra X (iS s)), (1, .int b), (2, .int (sumF 0 (fun i => if σ.1 (iL s i) 1 = b then σ.1 (iL s i) 2 else 0) (i + 1))), (3, .int (nI (i + 1)))] ⟨rfl, rfl, (congrArg (fun z => some (Value.int z)) (by simp [sumF, c9, c22])), rfl, trivial⟩ ?_
        exact ih (i + 1) (by omega)
  refine g_iconst (v := 0) h dX3_debtsOf_0 (by decide) ?_
  refine g_istore_n h dX3_debtsOf_1 (by rw [hL]; decide) ?_
  refine g_iconst (v := 0) h dX3_debtsOf_2 (by decide) ?_
  refine g_istore_n h dX3_debtsOf_3 (by rw [hL]; decide) ?_
  refine g_sub [(0, ra X (iS s)), (1, .int b), (2, .int (sumF 0 (fun i => if σ.1 (iL s i) 1 = b then σ.1 (iL s i) 2 else 0) 0)), (3, .int (nI 0))] ⟨rfl, rfl, rfl, lk_0, trivial⟩ ?_
  exact LOOP m 0 (by omega)
set_option maxRecDepth 100000 in
set_option maxHeartbeats 4000000 in
theorem ct_X3_claimsOf {l : Launch} {X : fX} {σ : fM} {s n m : Nat} (hs : s < 6) (hc : cnt σ s n m) {b : Int32} : Ct l X yX3_claimsOf cX3_claimsOf 4 (some .int) 0 [ra X (iS s), .int b] σ (some (.int (sumF 0 (fun i => if σ.1 (iL s i) 0 = b then σ.1 (iL s i) 2 else 0) m))) σ := by
  refine Ct.of RX3 rfl (by decide) (Nat.le_of_ble_eq_true rfl) ?_
  intro x hL h hr
  refine g_sub [(0, ra X (iS s)), (1, .int b)] ⟨rfl, rfl, trivial⟩ ?_
  obtain ⟨hn, hm, hn6, hm8⟩ := hc
  have LOOP : ∀ (q i : Nat), i + q = m → G x X σ [(0, ra X (iS s)), (1, .int b), (2, .int (sumF 0 (fun i => if σ.1 (iL s i) 0 = b then σ.1 (iL s i) 2 else 0) i)), (3, .int (nI i))] [] 4 := by
    intro q
    induction q with
    | zero =>
      intro i hi 
      obtain rfl : i = m := by omega
      refine g_iload_n h dX3_claimsOf_4 rfl ?_
      refine g_aload_n h dX3_claimsOf_5 rfl ?_
      refine gf3_40 h (by omega) dX3_claimsOf_6 ?_
      refine g_icge h 43 dX3_claimsOf_9 (by decide) (fun c9 => ?_) (fun c9 => absurd (by rw [hm]; exact Int32.le_refl _) c9)
      refine g_iload_n h dX3_claimsOf_43 rfl ?_
      exact g_iret h hr dX3_claimsOf_44 rfl rfl
    | succ q ih =>
      intro i hi 
      have hlt : i < m := by omega
      refine g_iload_n h dX3_claimsOf_4 rfl ?_
      refine g_aload_n h dX3_claimsOf_5 rfl ?_
      refine gf3_40 h (by omega) dX3_claimsOf_6 ?_
      refine g_icge h 43 dX3_claimsOf_9 (by decide) (fun c9 => absurd c9 (by rw [hm]; exact nI_ge hlt (by omega))) (fun c9 => ?_)
      refine g_aload_n h dX3_claimsOf_12 rfl ?_
      refine gf3_20 h (by omega) dX3_claimsOf_13 ?_
      refine g_iload_n h dX3_claimsOf_16 rfl ?_
      refine g_aaldL h (by omega) rfl (by omega) dX3_claimsOf_17 ?_
      refine gf3_88 h (by omega) (by omega) dX3_claimsOf_18 ?_
      refine g_iload_n h dX3_claimsOf_21 rfl ?_
      refine g_icne h 37 dX3_claimsOf_22 (by decide) (fun c22 => ?_) (fun c22 => ?_)
      · refine g_iincN h dX3_claimsOf_37 rfl (by rw [hL]; decide) ?_
        refine g_goto h 4 dX3_claimsOf_40 (by decide) ?_
        refine g_sub [(0, ra X (iS s)), (1, .int b), (2, .int (sumF 0 (fun i => if σ.1 (iL s i) 0 = b then σ.1 (iL s i) 2 else 0) (i + 1))), (3, .int (nI (i + 1)))] ⟨rfl, rfl, (congrArg (fun z => some (Value.int z)) (by simp [sumF, c9, c22])), rfl, trivial⟩ ?_
        exact ih (i + 1) (by omega)
      · refine g_iload_n h dX3_claimsOf_25 rfl ?_
        refine g_aload_n h dX3_claimsOf_26 rfl ?_
        refine gf3_20 h (by omega) dX3_claimsOf_27 ?_
        refine g_iload_n h dX3_claimsOf_30 rfl ?_
        refine g_aaldL h (by omega) rfl (by omega) dX3_claimsOf_31 ?_
        refine gf3_94 h (by omega) (by omega) dX3_claimsOf_32 ?_
        refine g_iadd h dX3_claimsOf_35 ?_
        refine g_istore_n h dX3_claimsOf_36 (by rw [hL]; decide) ?_
        refine g_iincN h dX3_claimsOf_37 rfl (by rw [hL]; decide) ?_
        refine g_goto h 4 dX3_claimsOf_40 (by decide) ?_
        refine g_sub [(0, ra X (iS s)), (1, .int b), (2, .int (sumF 0 (fun i => if σ.1 (iL s i) 0 = b then σ.1 (iL s i) 2 else 0) (i + 1))), (3, .int (nI (i + 1)))] ⟨rfl, rfl, (congrArg (fun z => some (Value.int z)) (by simp [sumF, c9, c22])), rfl, trivial⟩ ?_
        exact ih (i + 1) (by omega)
  refine g_iconst (v := 0) h dX3_claimsOf_0 (by decide) ?_
  refine g_istore_n h dX3_claimsOf_1 (by rw [hL]; decide) ?_
  refine g_iconst (v := 0) h dX3_claimsOf_2 (by decide) ?_
  refine g_istore_n h dX3_claimsOf_3 (by rw [hL]; decide) ?_
  refine g_sub [(0, ra X (iS s)), (1, .int b), (2, .int (sumF 0 (fun i => if σ.1 (iL s i) 0 = b then σ.1 (iL s i) 2 else 0) 0)), (3, .int (nI 0))] ⟨rfl, rfl, rfl, lk_0, trivial⟩ ?_
  exact LOOP m 0 (by omega)
set_option maxRecDepth 100000 in
set_option maxHeartbeats 4000000 in
theorem ct_X3_stakesOn {l : Launch} {X : fX} {σ : fM} {s n m : Nat} (hs : s < 6) (hc : cnt σ s n m) {b : Int32} : Ct l X yX3_stakesOn cX3_stakesOn 4 (some .int) 0 [ra X (iS s), .int b] σ (some (.int (sumF 0 (fun i => if σ.1 (iO s i) 9 = b then σ.1 (iO s i) 10 else 0) n))) σ := by
  refine Ct.of RX3 rfl (by decide) (Nat.le_of_ble_eq_true rfl) ?_
  intro x hL h hr
  refine g_sub [(0, ra X (iS s)), (1, .int b)] ⟨rfl, rfl, trivial⟩ ?_
  obtain ⟨hn, hm, hn6, hm8⟩ := hc
  have LOOP : ∀ (q i : Nat), i + q = n → G x X σ [(0, ra X (iS s)), (1, .int b), (2, .int (sumF 0 (fun i => if σ.1 (iO s i) 9 = b then σ.1 (iO s i) 10 else 0) i)), (3, .int (nI i))] [] 4 := by
    intro q
    induction q with
    | zero =>
      intro i hi 
      obtain rfl : i = n := by omega
      refine g_iload_n h dX3_stakesOn_4 rfl ?_
      refine g_aload_n h dX3_stakesOn_5 rfl ?_
      refine gf3_32 h (by omega) dX3_stakesOn_6 ?_
      refine g_icge h 43 dX3_stakesOn_9 (by decide) (fun c9 => ?_) (fun c9 => absurd (by rw [hn]; exact Int32.le_refl _) c9)
      refine g_iload_n h dX3_stakesOn_43 rfl ?_
      exact g_iret h hr dX3_stakesOn_44 rfl rfl
    | succ q ih =>
      intro i hi 
      have hlt : i < n := by omega
      refine g_iload_n h dX3_stakesOn_4 rfl ?_
      refine g_aload_n h dX3_stakesOn_5 rfl ?_
      refine gf3_32 h (by omega) dX3_stakesOn_6 ?_
      refine g_icge h 43 dX3_stakesOn_9 (by decide) (fun c9 => absurd c9 (by rw [hn]; exact nI_ge hlt (by omega))) (fun c9 => ?_)
      refine g_aload_n h dX3_stakesOn_12 rfl ?_
      refine gf3_11 h (by omega) dX3_stakesOn_13 ?_
      refine g_iload_n h dX3_stakesOn_16 rfl ?_
      refine g_aaldO h (by omega) rfl (by omega) dX3_stakesOn_17 ?_
      refine gf3_111 h (by omega) (by omega) dX3_stakesOn_18 ?_
      refine g_iload_n h dX3_stakesOn_21 rfl ?_
      refine g_icne h 37 dX3_stakesOn_22 (by decide) (fun c22 => ?_) (fun c22 => ?_)
      · refine g_iincN h dX3_stakesOn_37 rfl (by rw [hL]; decide) ?_
        refine g_goto h 4 dX3_stakesOn_40 (by decide) ?_
        refine g_sub [(0, ra X (iS s)), (1, .int b), (2, .int (sumF 0 (fun i => if σ.1 (iO s i) 9 = b then σ.1 (iO s i) 10 else 0) (i + 1))), (3, .int (nI (i + 1)))] ⟨rfl, rfl, (congrArg (fun z => some (Value.int z)) (by simp [sumF, c9, c22])), rfl, trivial⟩ ?_
        exact ih (i + 1) (by omega)
      · refine g_iload_n h dX3_stakesOn_25 rfl ?_
        refine g_aload_n h dX3_stakesOn_26 rfl ?_
        refine gf3_11 h (by omega) dX3_stakesOn_27 ?_
        refine g_iload_n h dX3_stakesOn_30 rfl ?_
        refine g_aaldO h (by omega) rfl (by omega) dX3_stakesOn_31 ?_
        refine gf3_101 h (by omega) (by omega) dX3_stakesOn_32 ?_
        refine g_iadd h dX3_stakesOn_35 ?_
        refine g_istore_n h dX3_stakesOn_36 (by rw [hL]; decide) ?_
        refine g_iincN h dX3_stakesOn_37 rfl (by rw [hL]; decide) ?_
        refine g_goto h 4 dX3_stakesOn_40 (by decide) ?_
        refine g_sub [(0, ra X (iS s)), (1, .int b), (2, .int (sumF 0 (fun i => if σ.1 (iO s i) 9 = b then σ.1 (iO s i) 10 else 0) (i + 1))), (3, .int (nI (i + 1)))] ⟨rfl, rfl, (congrArg (fun z => some (Value.int z)) (by simp [sumF, c9, c22])), rfl, trivial⟩ ?_
        exact ih (i + 1) (by omega)
  refine g_iconst (v := 0) h dX3_stakesOn_0 (by decide) ?_
  refine g_istore_n h dX3_stakesOn_1 (by rw [hL]; decide) ?_
  refine g_iconst (v := 0) h dX3_stakesOn_2 (by decide) ?_
  refine g_istore_n h dX3_stakesOn_3 (by rw [hL]; decide) ?_
  refine g_sub [(0, ra X (iS s)), (1, .int b), (2, .int (sumF 0 (fun i => if σ.1 (iO s i) 9 = b then σ.1 (iO s i) 10 else 0) 0)), (3, .int (nI 0))] ⟨rfl, rfl, rfl, lk_0, trivial⟩ ?_
  exact LOOP n 0 (by omega)
set_option maxRecDepth 100000 in
set_option maxHeartbeats 4000000 in
theorem ct_X3_richerThan {l : Launch} {X : fX} {σ : fM} {s n m : Nat} (hs : s < 6) (hc : cnt σ s n m) {j : Nat} (hj : j < n) : Ct l X yX3_richerThan cX3_richerThan 5 (some .int) 0 [ra X (iS s), .int (nI j)] σ (some (.int (sumF 0 (fun i => if σ.1 (iO s j) 2 < σ.1 (iO s i) 2 ∨ (σ.1 (iO s i) 2 = σ.1 (iO s j) 2 ∧ nI i < nI j) then 1 else 0) n))) σ := by
  refine Ct.of RX3 rfl (by decide) (Nat.le_of_ble_eq_true rfl) ?_
  intro x hL h hr
  refine g_sub [(0, ra X (iS s)), (1, .int (nI j))] ⟨rfl, rfl, trivial⟩ ?_
  obtain ⟨hn, hm, hn6, hm8⟩ := hc
  have LOOP : ∀ (q i : Nat), i + q = n → G x X σ [(0, ra X (iS s)), (1, .int (nI j)), (2, .int (σ.1 (iO s j) 2)), (3, .int (sumF 0 (fun i => if σ.1 (iO s j) 2 < σ.1 (iO s i) 2 ∨ (σ.1 (iO s i) 2 = σ.1 (iO s j) 2 ∧ nI i < nI j) then 1 else 0) i)), (4, .int (nI i))] [] 15 := by
    intro q
    induction q with
    | zero =>
      intro i hi 
      obtain rfl : i = n := by omega
      refine g_iload h dX3_richerThan_15 rfl ?_
      refine g_aload_n h dX3_richerThan_17 rfl ?_
      refine gf3_32 h (by omega) dX3_richerThan_18 ?_
      refine g_icge h 67 dX3_richerThan_21 (by decide) (fun c21 => ?_) (fun c21 => absurd (by rw [hn]; exact Int32.le_refl _) c21)
      refine g_iload_n h dX3_richerThan_67 rfl ?_
      exact g_iret h hr dX3_richerThan_68 rfl rfl
    | succ q ih =>
      intro i hi 
      have hlt : i < n := by omega
      refine g_iload h dX3_richerThan_15 rfl ?_
      refine g_aload_n h dX3_richerThan_17 rfl ?_
      refine gf3_32 h (by omega) dX3_richerThan_18 ?_
      refine g_icge h 67 dX3_richerThan_21 (by decide) (fun c21 => absurd c21 (by rw [hn]; exact nI_ge hlt (by omega))) (fun c21 => ?_)
      refine g_aload_n h dX3_richerThan_24 rfl ?_
      refine gf3_11 h (by omega) dX3_richerThan_25 ?_
      refine g_iload h dX3_richerThan_28 rfl ?_
      refine g_aaldO h (by omega) rfl (by omega) dX3_richerThan_30 ?_
      refine gf3_85 h (by omega) (by omega) dX3_richerThan_31 ?_
      refine g_iload_n h dX3_richerThan_34 rfl ?_
      refine g_icgt h 58 dX3_richerThan_35 (by decide) (fun c35 => ?_) (fun c35 => ?_)
      · refine g_iinc1 h dX3_richerThan_58 rfl (by rw [hL]; decide) ?_
        refine g_iincN h dX3_richerThan_61 rfl (by rw [hL]; decide) ?_
        refine g_goto h 15 dX3_richerThan_64 (by decide) ?_
        refine g_sub [(0, ra X (iS s)), (1, .int (nI j)), (2, .int (σ.1 (iO s j) 2)), (3, .int (sumF 0 (fun i => if σ.1 (iO s j) 2 < σ.1 (iO s i) 2 ∨ (σ.1 (iO s i) 2 = σ.1 (iO s j) 2 ∧ nI i < nI j) then 1 else 0) (i + 1))), (4, .int (nI (i + 1)))] ⟨rfl, rfl, rfl, (congrArg (fun z => some (Value.int z)) (by simp [sumF, c21, c35])), rfl, trivial⟩ ?_
        exact ih (i + 1) (by omega)
      · refine g_aload_n h dX3_richerThan_38 rfl ?_
        refine gf3_11 h (by omega) dX3_richerThan_39 ?_
        refine g_iload h dX3_richerThan_42 rfl ?_
        refine g_aaldO h (by omega) rfl (by omega) dX3_richerThan_44 ?_
        refine gf3_85 h (by omega) (by omega) dX3_richerThan_45 ?_
        refine g_iload_n h dX3_richerThan_48 rfl ?_
        refine g_icne h 61 dX3_richerThan_49 (by decide) (fun c49 => ?_) (fun c49 => ?_)
        · refine g_iincN h dX3_richerThan_61 rfl (by rw [hL]; decide) ?_
          refine g_goto h 15 dX3_richerThan_64 (by decide) ?_
          refine g_sub [(0, ra X (iS s)), (1, .int (nI j)), (2, .int (σ.1 (iO s j) 2)), (3, .int (sumF 0 (fun i => if σ.1 (iO s j) 2 < σ.1 (iO s i) 2 ∨ (σ.1 (iO s i) 2 = σ.1 (iO s j) 2 ∧ nI i < nI j) then 1 else 0) (i + 1))), (4, .int (nI (i + 1)))] ⟨rfl, rfl, rfl, (congrArg (fun z => some (Value.int z)) (by simp [sumF, c21, c35, c49])), rfl, trivial⟩ ?_
          exact ih (i + 1) (by omega)
        · refine g_iload h dX3_richerThan_52 rfl ?_
          refine g_iload_n h dX3_richerThan_54 rfl ?_
          refine g_icge h 61 dX3_richerThan_55 (by decide) (fun c55 => ?_) (fun c55 => ?_)
          · refine g_iincN h dX3_richerThan_61 rfl (by rw [hL]; decide) ?_
            refine g_goto h 15 dX3_richerThan_64 (by decide) ?_
            refine g_sub [(0, ra X (iS s)), (1, .int (nI j)), (2, .int (σ.1 (iO s j) 2)), (3, .int (sumF 0 (fun i => if σ.1 (iO s j) 2 < σ.1 (iO s i) 2 ∨ (σ.1 (iO s i) 2 = σ.1 (iO s j) 2 ∧ nI i < nI j) then 1 else 0) (i + 1))), (4, .int (nI (i + 1)))] ⟨rfl, rfl, rfl, (congrArg (fun z => some (Value.int z)) (by simp [sumF, c21, c35, c49, c55])), rfl, trivial⟩ ?_
            exact ih (i + 1) (by omega)
          · refine g_iinc1 h dX3_richerThan_58 rfl (by rw [hL]; decide) ?_
            refine g_iincN h dX3_richerThan_61 rfl (by rw [hL]; decide) ?_
            refine g_goto h 15 dX3_richerThan_64 (by decide) ?_
            refine g_sub [(0, ra X (iS s)), (1, .int (nI j)), (2, .int (σ.1 (iO s j) 2)), (3, .int (sumF 0 (fun i => if σ.1 (iO s j) 2 < σ.1 (iO s i) 2 ∨ (σ.1 (iO s i) 2 = σ.1 (iO s j) 2 ∧ nI i < nI j) then 1 else 0) (i + 1))), (4, .int (nI (i + 1)))] ⟨rfl, rfl, rfl, (congrArg (fun z => some (Value.int z)) (by simp [sumF, c21, c35, c49, c55])), rfl, trivial⟩ ?_
            exact ih (i + 1) (by omega)
  refine g_aload_n h dX3_richerThan_0 rfl ?_
  refine gf3_11 h (by omega) dX3_richerThan_1 ?_
  refine g_iload_n h dX3_richerThan_4 rfl ?_
  refine g_aaldO h (by omega) rfl (by omega) dX3_richerThan_5 ?_
  refine gf3_85 h (by omega) (by omega) dX3_richerThan_6 ?_
  refine g_istore_n h dX3_richerThan_9 (by rw [hL]; decide) ?_
  refine g_iconst (v := 0) h dX3_richerThan_10 (by decide) ?_
  refine g_istore_n h dX3_richerThan_11 (by rw [hL]; decide) ?_
  refine g_iconst (v := 0) h dX3_richerThan_12 (by decide) ?_
  refine g_istore h dX3_richerThan_13 (by rw [hL]; decide) ?_
  refine g_sub [(0, ra X (iS s)), (1, .int (nI j)), (2, .int (σ.1 (iO s j) 2)), (3, .int (sumF 0 (fun i => if σ.1 (iO s j) 2 < σ.1 (iO s i) 2 ∨ (σ.1 (iO s i) 2 = σ.1 (iO s j) 2 ∧ nI i < nI j) then 1 else 0) 0)), (4, .int (nI 0))] ⟨rfl, rfl, rfl, rfl, lk_0, trivial⟩ ?_
  exact LOOP n 0 (by omega)
set_option maxRecDepth 100000 in
set_option maxHeartbeats 4000000 in
theorem ct_X3_isTaken {l : Launch} {X : fX} {σ : fM} {s n m : Nat} (hs : s < 6) (hc : cnt σ s n m) {b p : Int32} : Ct l X yX3_isTaken cX3_isTaken 4 (some .boolean) 0 [ra X (iS s), .int b, .int p] σ (some (.int (bi (anyF (fun i => decide (σ.1 (iO s i) 3 = b) && decide (σ.1 (iO s i) 4 = p)) n)))) σ := by
  refine Ct.of RX3 rfl (by decide) (Nat.le_of_ble_eq_true rfl) ?_
  intro x hL h hr
  refine g_sub [(0, ra X (iS s)), (1, .int b), (2, .int p)] ⟨rfl, rfl, rfl, trivial⟩ ?_
  obtain ⟨hn, hm, hn6, hm8⟩ := hc
  have LOOP : ∀ (q i : Nat), i + q = n → anyF (fun i => decide (σ.1 (iO s i) 3 = b) && decide (σ.1 (iO s i) 4 = p)) i = false → G x X σ [(0, ra X (iS s)), (1, .int b), (2, .int p), (3, .int (nI i))] [] 2 := by
    intro q
    induction q with
    | zero =>
      intro i hi hf
      obtain rfl : i = n := by omega
      refine g_iload_n h dX3_isTaken_2 rfl ?_
      refine g_aload_n h dX3_isTaken_3 rfl ?_
      refine gf3_32 h (by omega) dX3_isTaken_4 ?_
      refine g_icge h 44 dX3_isTaken_7 (by decide) (fun c7 => ?_) (fun c7 => absurd (by rw [hn]; exact Int32.le_refl _) c7)
      refine g_iconst (v := 0) h dX3_isTaken_44 (by decide) ?_
      exact g_zret h hr (by first | rfl | exact bi_n _) dX3_isTaken_45 (by rw [hf]; rfl) rfl
    | succ q ih =>
      intro i hi hf
      have hlt : i < n := by omega
      refine g_iload_n h dX3_isTaken_2 rfl ?_
      refine g_aload_n h dX3_isTaken_3 rfl ?_
      refine gf3_32 h (by omega) dX3_isTaken_4 ?_
      refine g_icge h 44 dX3_isTaken_7 (by decide) (fun c7 => absurd c7 (by rw [hn]; exact nI_ge hlt (by omega))) (fun c7 => ?_)
      refine g_aload_n h dX3_isTaken_10 rfl ?_
      refine gf3_11 h (by omega) dX3_isTaken_11 ?_
      refine g_iload_n h dX3_isTaken_14 rfl ?_
      refine g_aaldO h (by omega) rfl (by omega) dX3_isTaken_15 ?_
      refine gf3_68 h (by omega) (by omega) dX3_isTaken_16 ?_
      refine g_iload_n h dX3_isTaken_19 rfl ?_
      refine g_icne h 38 dX3_isTaken_20 (by decide) (fun c20 => ?_) (fun c20 => ?_)
      · refine g_iincN h dX3_isTaken_38 rfl (by rw [hL]; decide) ?_
        refine g_goto h 2 dX3_isTaken_41 (by decide) ?_
        refine g_sub [(0, ra X (iS s)), (1, .int b), (2, .int p), (3, .int (nI (i + 1)))] ⟨rfl, rfl, rfl, rfl, trivial⟩ ?_
        exact ih (i + 1) (by omega) (by simp [anyF, hf, c7, c20])
      · refine g_aload_n h dX3_isTaken_23 rfl ?_
        refine gf3_11 h (by omega) dX3_isTaken_24 ?_
        refine g_iload_n h dX3_isTaken_27 rfl ?_
        refine g_aaldO h (by omega) rfl (by omega) dX3_isTaken_28 ?_
        refine gf3_75 h (by omega) (by omega) dX3_isTaken_29 ?_
        refine g_iload_n h dX3_isTaken_32 rfl ?_
        refine g_icne h 38 dX3_isTaken_33 (by decide) (fun c33 => ?_) (fun c33 => ?_)
        · refine g_iincN h dX3_isTaken_38 rfl (by rw [hL]; decide) ?_
          refine g_goto h 2 dX3_isTaken_41 (by decide) ?_
          refine g_sub [(0, ra X (iS s)), (1, .int b), (2, .int p), (3, .int (nI (i + 1)))] ⟨rfl, rfl, rfl, rfl, trivial⟩ ?_
          exact ih (i + 1) (by omega) (by simp [anyF, hf, c7, c20, c33])
        · refine g_iconst (v := 1) h dX3_isTaken_36 (by decide) ?_
          exact g_zret h hr (by first | rfl | exact bi_n _) dX3_isTaken_37 (by rw [anyF_t hlt (by simp [c7, c20, c33])]; rfl) rfl
  refine g_iconst (v := 0) h dX3_isTaken_0 (by decide) ?_
  refine g_istore_n h dX3_isTaken_1 (by rw [hL]; decide) ?_
  refine g_sub [(0, ra X (iS s)), (1, .int b), (2, .int p), (3, .int (nI 0))] ⟨rfl, rfl, rfl, lk_0, trivial⟩ ?_
  exact LOOP n 0 (by omega) rfl
def tak (σ : fM) (s n : Nat) (b p : Int32) : Bool := anyF (fun i => decide (σ.1 (iO s i) 3 = b) && decide (σ.1 (iO s i) 4 = p)) n

set_option maxRecDepth 100000 in
set_option maxHeartbeats 4000000 in
theorem ct_X3_lowestFreeSeat {l : Launch} {X : fX} {σ : fM} {s n m : Nat} (hs : s < 6) (hc : cnt σ s n m) {b : Int32} : Ct l X yX3_lowestFreeSeat cX3_lowestFreeSeat 3 (some .int) 1 [ra X (iS s), .int b] σ (some (.int (if tak σ s n b 0 = true then (if tak σ s n b 1 = true then -1 else 1) else 0))) σ := by
  refine Ct.of RX3 rfl (by decide) (Nat.le_of_ble_eq_true rfl) ?_
  intro x hL h hr
  refine g_sub [(0, ra X (iS s)), (1, .int b)] ⟨rfl, rfl, trivial⟩ ?_
  refine g_iconst (v := 0) h dX3_lowestFreeSeat_0 (by decide) ?_
  refine g_istore_n h dX3_lowestFreeSeat_1 (by rw [hL]; decide) ?_
  refine g_iload_n h dX3_lowestFreeSeat_2 rfl ?_
  refine g_iconst (v := 2) h dX3_lowestFreeSeat_3 (by decide) ?_
  refine g_icge h 24 dX3_lowestFreeSeat_4 (by decide) (fun c4 => absurd c4 (by decide)) (fun c4 => ?_)
  refine g_aload_n h dX3_lowestFreeSeat_7 rfl ?_
  refine g_iload_n h dX3_lowestFreeSeat_8 rfl ?_
  refine g_iload_n h dX3_lowestFreeSeat_9 rfl ?_
  refine cl3_71 h (by omega) (ct_X3_isTaken hs hc) rfl dX3_lowestFreeSeat_10 rfl (Nat.le_of_ble_eq_true rfl) (by decide) ?_
  refine g_ifneB h 18 dX3_lowestFreeSeat_13 (by decide) (fun c13 => ?_) (fun c13 => ?_)
  · refine g_iinc1 h dX3_lowestFreeSeat_18 rfl (by rw [hL]; decide) ?_
    refine g_goto h 2 dX3_lowestFreeSeat_21 (by decide) ?_
    refine g_iload_n h dX3_lowestFreeSeat_2 rfl ?_
    refine g_iconst (v := 2) h dX3_lowestFreeSeat_3 (by decide) ?_
    refine g_icge h 24 dX3_lowestFreeSeat_4 (by decide) (fun c4 => absurd c4 (by decide)) (fun c4 => ?_)
    refine g_aload_n h dX3_lowestFreeSeat_7 rfl ?_
    refine g_iload_n h dX3_lowestFreeSeat_8 rfl ?_
    refine g_iload_n h dX3_lowestFreeSeat_9 rfl ?_
    refine cl3_71 h (by omega) (ct_X3_isTaken hs hc) rfl dX3_lowestFreeSeat_10 rfl (Nat.le_of_ble_eq_true rfl) (by decide) ?_
    refine g_ifneB h 18 dX3_lowestFreeSeat_13 (by decide) (fun c13 => ?_) (fun c13 => ?_)
    · refine g_iinc1 h dX3_lowestFreeSeat_18 rfl (by rw [hL]; decide) ?_
      refine g_goto h 2 dX3_lowestFreeSeat_21 (by decide) ?_
      refine g_iload_n h dX3_lowestFreeSeat_2 rfl ?_
      refine g_iconst (v := 2) h dX3_lowestFreeSeat_3 (by decide) ?_
      refine g_icge h 24 dX3_lowestFreeSeat_4 (by decide) (fun c4 => ?_) (fun c4 => absurd (by decide) c4)
      refine g_iconst (v := (-1)) h dX3_lowestFreeSeat_24 (by decide) ?_
      exact g_iret h hr dX3_lowestFreeSeat_25 (by first | (simp [tak, c4, c13, c4, c13, c4]; done) | (simp_all [tak]; done)) rfl
    · refine g_iload_n h dX3_lowestFreeSeat_16 rfl ?_
      exact g_iret h hr dX3_lowestFreeSeat_17 (by first | (simp [tak, c4, c13, c4, c13]; done) | (simp_all [tak]; done)) rfl
  · refine g_iload_n h dX3_lowestFreeSeat_16 rfl ?_
    exact g_iret h hr dX3_lowestFreeSeat_17 (by first | (simp [tak, c4, c13]; done) | (simp_all [tak]; done)) rfl
set_option maxRecDepth 100000 in
set_option maxHeartbeats 4000000 in
theorem ct_X3_hasSeen {l : Launch} {X : fX} {σ : fM} {s : Nat} (hs : s < 6) {a : Int32} : Ct l X yX3_hasSeen cX3_hasSeen 2 (some .boolean) 0 [ra X (iS s), .int a] σ (some (.int (bi (decide (((σ.2 (iS s)).toUInt64 >>> (a.toInt64.toUInt64 &&& Int64.toUInt64 63)).toInt64 &&& 1 = 1))))) σ := by
  refine Ct.of RX3 rfl (by decide) (Nat.le_of_ble_eq_true rfl) ?_
  intro x hL h hr
  refine g_sub [(0, ra X (iS s)), (1, .int a)] ⟨rfl, rfl, trivial⟩ ?_
  refine g_aload_n h dX3_hasSeen_0 rfl ?_
  refine gf3_64 h (by omega) dX3_hasSeen_1 ?_
  refine g_iload_n h dX3_hasSeen_4 rfl ?_
  refine g_lushr h dX3_hasSeen_5 ?_
  refine g_lconst (v := 1) h dX3_hasSeen_6 (by decide) ?_
  refine g_land h dX3_hasSeen_7 ?_
  refine g_lconst (v := 1) h dX3_hasSeen_8 (by decide) ?_
  refine g_lcmp h dX3_hasSeen_9 ?_
  refine g_ifne h 17 dX3_hasSeen_10 (by decide) (fun c10 => ?_) (fun c10 => ?_)
  · refine g_iconst (v := 0) h dX3_hasSeen_17 (by decide) ?_
    exact g_zret h hr (by first | rfl | exact bi_n _) dX3_hasSeen_18 (by first | (simp [bi, lg_cmp_eq0, c10]; done) | (simp_all [bi, lg_cmp_eq0]; done)) rfl
  · refine g_iconst (v := 1) h dX3_hasSeen_13 (by decide) ?_
    refine g_goto h 18 dX3_hasSeen_14 (by decide) ?_
    exact g_zret h hr (by first | rfl | exact bi_n _) dX3_hasSeen_18 (by first | (simp [bi, lg_cmp_eq0, c10]; done) | (simp_all [bi, lg_cmp_eq0]; done)) rfl
end
section
/-! State: what changes it -/
/-- rows put one behind another -/
def setF (σ : fM) (ix : Nat → Nat) (r : Nat → Nat → Int32) : Nat → fM
  | 0 => σ
  | n + 1 => puR (setF σ ix r n) (ix n) (r n)
theorem setF_ne {σ : fM} {ix : Nat → Nat} {r : Nat → Nat → Int32} {k : Nat} : ∀ {n : Nat}, (∀ i, i < n → ix i ≠ k) → (setF σ ix r n).1 k = σ.1 k
  | 0, _ => rfl
  | n + 1, h => by
    show (puR (setF σ ix r n) (ix n) (r n)).1 k = _
    rw [puR_ne _ (h n (Nat.lt_succ_self n)).symm]
    exact setF_ne (fun i hi => h i (Nat.lt_succ_of_lt hi))
theorem setF_at {σ : fM} {ix : Nat → Nat} {r : Nat → Nat → Int32} (hx : ∀ a b, ix a = ix b → a = b) {i : Nat} : ∀ {n : Nat}, i < n → (setF σ ix r n).1 (ix i) = r i
  | 0, h => absurd h (Nat.not_lt_zero _)
  | n + 1, h => by
    show (puR (setF σ ix r n) (ix n) (r n)).1 (ix i) = _
    by_cases hi : i = n
    · subst hi; rw [puR_self]
    · rw [puR_ne _ (fun e => hi (hx _ _ e)), setF_at hx (by omega)]
theorem setF_2 (σ : fM) (ix : Nat → Nat) (r : Nat → Nat → Int32) : ∀ (n : Nat), (setF σ ix r n).2 = σ.2
  | 0 => rfl
  | n + 1 => setF_2 σ ix r n
theorem setF_off {σ : fM} {ix : Nat → Nat} {r : Nat → Nat → Int32} (hx : ∀ a b, ix a = ix b → a = b) {i n : Nat} (h : n ≤ i) : (setF σ ix r n).1 (ix i) = σ.1 (ix i) := setF_ne (fun j hj e => by have := hx _ _ e; omega)
theorem iO_inj (s : Nat) : ∀ a b, iO s a = iO s b → a = b := by unfold iO; intros; omega
theorem iT_inj (s : Nat) : ∀ a b, iT s a = iT s b → a = b := by unfold iT; intros; omega
theorem iL_inj (s : Nat) : ∀ a b, iL s a = iL s b → a = b := by unfold iL; intros; omega
theorem iO_S (s i s' : Nat) (hi : i < 6) : iO s i ≠ iS s' := by unfold iO iS; omega
theorem iO_Set (s i s' : Nat) (hi : i < 6) : iO s i ≠ iSet s' := by unfold iO iSet; omega
theorem iT_S (s i s' : Nat) (hi : i < 6) : iT s i ≠ iS s' := by unfold iT iS; omega
theorem iT_Set (s i s' : Nat) (hi : i < 6) : iT s i ≠ iSet s' := by unfold iT iSet; omega
theorem iL_S (s l s' : Nat) (hl : l < 8) : iL s l ≠ iS s' := by unfold iL iS; omega
theorem iL_Set (s l s' : Nat) (hl : l < 8) : iL s l ≠ iSet s' := by unfold iL iSet; omega
theorem iL_O (s l s' i : Nat) (hl : l < 8) (hi : i < 6) : iL s l ≠ iO s' i := by unfold iL iO; omega
theorem iL_T (s l s' i : Nat) (hl : l < 8) (hi : i < 6) : iL s l ≠ iT s' i := by unfold iL iT; omega
theorem iS_Set (s s' : Nat) : iS s ≠ iSet s' := by unfold iS iSet; omega
/-- the ints of an oracle that are changed by what is foretold don't count for what it says -/
theorem oWord_cg {f f' t : Nat → Int32} {a hi : Int32} (h0 : f' 0 = f 0) (h1 : f' 1 = f 1) : oWord f' t a hi = oWord f t a hi := by unfold oWord oTab oSlot oMask; rw [h0, h1]
theorem oIn_cg {f f' : Nat → Int32} (h0 : f' 2 = f 2) (h1 : f' 3 = f 3) : oIn f' = oIn f := by unfold oIn oSeat oRuin; rw [h0, h1]
theorem oWord_u10 (f t : Nat → Int32) (v a hi : Int32) : oWord (upd f 10 v) t a hi = oWord f t a hi := oWord_cg (upd_n _ _ _ _ (by decide)) (upd_n _ _ _ _ (by decide))
theorem oIn_u10 (f : Nat → Int32) (v w : Int32) : oIn (upd (upd f 10 v) 9 w) = oIn f := oIn_cg (by rw [upd_n _ _ _ _ (by decide), upd_n _ _ _ _ (by decide)]) (by rw [upd_n _ _ _ _ (by decide), upd_n _ _ _ _ (by decide)])
theorem oGood_u10 {f : Nat → Int32} (v : Int32) (h : oGood f) : oGood (upd f 10 v) := by
  intro ht
  have e : (upd f 10 v) 1 = f 1 := upd_n _ _ _ _ (by decide)
  rw [e]
  exact h (by simpa [oTab, upd_n] using ht)
/-- what is foretold of the branch a: first round -/
def foW (σ : fM) (s : Nat) (a : Int32) (i : Nat) : Int32 := oWord (σ.1 (iO s i)) (σ.1 (iT s i)) a (σ.1 (iS s) 6)
def foSt (σ : fM) (s : Nat) (a : Int32) (i : Nat) : Int32 := oStake (σ.1 (iO s i)) (σ.1 (iT s i)) (σ.1 (iSet s) 0) a (σ.1 (iS s) 6)
def foR1 (σ : fM) (s : Nat) (a : Int32) (i : Nat) : Nat → Int32 := if σ.1 (iO s i) 0 = 4 then upd (σ.1 (iO s i)) 10 (foSt σ s a i) else upd (upd (σ.1 (iO s i)) 10 (foSt σ s a i)) 9 (foW σ s a i)
def foC1 (σ : fM) (s : Nat) (a : Int32) : Nat → Int32 := sumF 0 (fun i => if ¬ σ.1 (iO s i) 0 = 4 ∧ oIn (σ.1 (iO s i)) = true ∧ foW σ s a i = 1 then σ.1 (iO s i) 2 else 0)
def foC0 (σ : fM) (s : Nat) (a : Int32) : Nat → Int32 := sumF 0 (fun i => if ¬ σ.1 (iO s i) 0 = 4 ∧ oIn (σ.1 (iO s i)) = true ∧ ¬ foW σ s a i = 1 then σ.1 (iO s i) 2 else 0)
def foR2 (σ : fM) (s n : Nat) (a : Int32) (i : Nat) : Nat → Int32 := if σ.1 (iO s i) 0 = 4 then upd (foR1 σ s a i) 9 (if foC0 σ s a n ≤ foC1 σ s a n then 0 else 1) else foR1 σ s a i
/-- the memory behind what is foretold -/
def fore (σ : fM) (s n : Nat) (a : Int32) : fM := setF (setF σ (iO s) (foR1 σ s a) n) (iO s) (foR2 σ s n a) n

set_option maxRecDepth 100000 in
set_option maxHeartbeats 4000000 in
theorem ct_X3_foretell {l : Launch} {X : fX} {σ : fM} {s n m : Nat} (hs : s < 6) (hc : cnt σ s n m) {a : Int32} (hg : ∀ i, i < n → oGood (σ.1 (iO s i))) : Ct l X yX3_foretell cX3_foretell 6 none 3 [ra X (iS s), .int a] σ none (fore σ s n a) := by
  refine Ct.of RX3 rfl (by decide) (Nat.le_of_ble_eq_true rfl) ?_
  intro x hL h hr
  refine g_sub [(0, ra X (iS s)), (1, .int a)] ⟨rfl, rfl, trivial⟩ ?_
  obtain ⟨hn, hm, hn6, hm8⟩ := id hc
  have LOOP2 : ∀ (q i : Nat), i + q = n → G x X (setF (setF σ (iO s) (foR1 σ s a) n) (iO s) (foR2 σ s n a) i) [(0, ra X (iS s)), (2, .int (foC1 σ s a n)), (3, .int (foC0 σ s a n)), (4, .int (nI i))] [] 126 := by
    intro q
    induction q with
    | zero =>
      intro i hi 
      have hie : i = n := by omega
      rw [hie]
      have hn : (setF (setF σ (iO s) (foR1 σ s a) n) (iO s) (foR2 σ s n a) n).1 (iS s) 3 = nI n := by rw [show (setF (setF σ (iO s) (foR1 σ s a) n) (iO s) (foR2 σ s n a) n).1 (iS s) = σ.1 (iS s) from (setF_ne (fun j hj => iO_S s j s (by omega))).trans (setF_ne (fun j hj => iO_S s j s (by omega)))]; exact hn
      refine g_iload h dX3_foretell_126 rfl ?_
      refine g_aload_n h dX3_foretell_128 rfl ?_
      refine gf3_32 h (by omega) dX3_foretell_129 ?_
      refine g_icge h 175 dX3_foretell_132 (by decide) (fun c132 => ?_) (fun c132 => absurd (by rw [hn]; exact Int32.le_refl _) c132)
      exact g_vret h hr dX3_foretell_175 rfl
    | succ q ih =>
      intro i hi 
      have hlt : i < n := by omega
      have eO : (setF (setF σ (iO s) (foR1 σ s a) n) (iO s) (foR2 σ s n a) i).1 (iO s i) = foR1 σ s a i := (setF_off (iO_inj s) (Nat.le_refl i)).trans (setF_at (iO_inj s) (by omega))
      have eS : (setF (setF σ (iO s) (foR1 σ s a) n) (iO s) (foR2 σ s n a) i).1 (iS s) = σ.1 (iS s) := (setF_ne (fun j hj => iO_S s j s (by omega))).trans (setF_ne (fun j hj => iO_S s j s (by omega)))
      have hn : (setF (setF σ (iO s) (foR1 σ s a) n) (iO s) (foR2 σ s n a) i).1 (iS s) 3 = nI n := by rw [eS]; exact hn
      have e0 : foR1 σ s a i 0 = σ.1 (iO s i) 0 := by unfold foR1; split <;> simp [upd_n]
      generalize hτ : (setF (setF σ (iO s) (foR1 σ s a) n) (iO s) (foR2 σ s n a) i) = τ at eO eS hn ⊢
      refine g_iload h dX3_foretell_126 rfl ?_
      refine g_aload_n h dX3_foretell_128 rfl ?_
      refine gf3_32 h (by omega) dX3_foretell_129 ?_
      refine g_icge h 175 dX3_foretell_132 (by decide) (fun c132 => absurd c132 (by rw [hn]; exact nI_ge hlt (by omega))) (fun c132 => ?_)
      refine g_aload_n h dX3_foretell_135 rfl ?_
      refine gf3_11 h (by omega) dX3_foretell_136 ?_
      refine g_iload h dX3_foretell_139 rfl ?_
      refine g_aaldO h (by omega) rfl (by omega) dX3_foretell_141 ?_
      refine gf3_104 h (by omega) (by omega) dX3_foretell_142 ?_
      refine g_iconst (v := 4) h dX3_foretell_145 (by decide) ?_
      refine g_icne h 169 dX3_foretell_146 (by decide) (fun c146 => ?_) (fun c146 => ?_)
      · refine g_iincN h dX3_foretell_169 rfl (by rw [hL]; decide) ?_
        refine g_goto h 126 dX3_foretell_172 (by decide) ?_
        refine g_mem (setF (setF σ (iO s) (foR1 σ s a) n) (iO s) (foR2 σ s n a) (i + 1)) (by show _ = puR (setF (setF σ (iO s) (foR1 σ s a) n) (iO s) (foR2 σ s n a) i) (iO s i) (foR2 σ s n a i); rw [hτ]; have e1 : σ.1 (iO s i) 0 = τ.1 (iO s i) 0 := (by rw [eO, e0]); simp only [foR2, ← eO, e1]; simp [pu_puR, puR_puR, puR_self, puR_id, upd_n, c132, c146]) ?_
        refine g_sub [(0, ra X (iS s)), (2, .int (foC1 σ s a n)), (3, .int (foC0 σ s a n)), (4, .int (nI (i + 1)))] ⟨rfl, rfl, rfl, rfl, trivial⟩ ?_
        exact ih (i + 1) (by omega)
      · refine g_aload_n h dX3_foretell_149 rfl ?_
        refine gf3_11 h (by omega) dX3_foretell_150 ?_
        refine g_iload h dX3_foretell_153 rfl ?_
        refine g_aaldO h (by omega) rfl (by omega) dX3_foretell_155 ?_
        refine g_iload_n h dX3_foretell_156 rfl ?_
        refine g_iload_n h dX3_foretell_157 rfl ?_
        refine g_icle h 165 dX3_foretell_158 (by decide) (fun c158 => ?_) (fun c158 => ?_)
        · refine g_iconst (v := 0) h dX3_foretell_165 (by decide) ?_
          refine gp3_111 h (by omega) (by omega) dX3_foretell_166 ?_
          refine g_iincN h dX3_foretell_169 rfl (by rw [hL]; decide) ?_
          refine g_goto h 126 dX3_foretell_172 (by decide) ?_
          refine g_mem (setF (setF σ (iO s) (foR1 σ s a) n) (iO s) (foR2 σ s n a) (i + 1)) (by show _ = puR (setF (setF σ (iO s) (foR1 σ s a) n) (iO s) (foR2 σ s n a) i) (iO s i) (foR2 σ s n a i); rw [hτ]; have e1 : σ.1 (iO s i) 0 = τ.1 (iO s i) 0 := (by rw [eO, e0]); simp only [foR2, ← eO, e1]; simp [pu_puR, puR_puR, puR_self, puR_id, upd_n, c132, c146, c158]) ?_
          refine g_sub [(0, ra X (iS s)), (2, .int (foC1 σ s a n)), (3, .int (foC0 σ s a n)), (4, .int (nI (i + 1)))] ⟨rfl, rfl, rfl, rfl, trivial⟩ ?_
          exact ih (i + 1) (by omega)
        · refine g_iconst (v := 1) h dX3_foretell_161 (by decide) ?_
          refine g_goto h 166 dX3_foretell_162 (by decide) ?_
          refine gp3_111 h (by omega) (by omega) dX3_foretell_166 ?_
          refine g_iincN h dX3_foretell_169 rfl (by rw [hL]; decide) ?_
          refine g_goto h 126 dX3_foretell_172 (by decide) ?_
          refine g_mem (setF (setF σ (iO s) (foR1 σ s a) n) (iO s) (foR2 σ s n a) (i + 1)) (by show _ = puR (setF (setF σ (iO s) (foR1 σ s a) n) (iO s) (foR2 σ s n a) i) (iO s i) (foR2 σ s n a i); rw [hτ]; have e1 : σ.1 (iO s i) 0 = τ.1 (iO s i) 0 := (by rw [eO, e0]); simp only [foR2, ← eO, e1]; simp [pu_puR, puR_puR, puR_self, puR_id, upd_n, c132, c146, c158]) ?_
          refine g_sub [(0, ra X (iS s)), (2, .int (foC1 σ s a n)), (3, .int (foC0 σ s a n)), (4, .int (nI (i + 1)))] ⟨rfl, rfl, rfl, rfl, trivial⟩ ?_
          exact ih (i + 1) (by omega)
  have LOOP1 : ∀ (q i : Nat), i + q = n → G x X (setF σ (iO s) (foR1 σ s a) i) [(0, ra X (iS s)), (1, .int a), (2, .int (foC1 σ s a i)), (3, .int (foC0 σ s a i)), (4, .int (nI i))] [] 7 := by
    intro q
    induction q with
    | zero =>
      intro i hi 
      have hie : i = n := by omega
      rw [hie]
      have hn : (setF σ (iO s) (foR1 σ s a) n).1 (iS s) 3 = nI n := by rw [show (setF σ (iO s) (foR1 σ s a) n).1 (iS s) = σ.1 (iS s) from setF_ne (fun j hj => iO_S s j s (by omega))]; exact hn
      refine g_iload h dX3_foretell_7 rfl ?_
      refine g_aload_n h dX3_foretell_9 rfl ?_
      refine gf3_32 h (by omega) dX3_foretell_10 ?_
      refine g_icge h 123 dX3_foretell_13 (by decide) (fun c13 => ?_) (fun c13 => absurd (by rw [hn]; exact Int32.le_refl _) c13)
      refine g_iconst (v := 0) h dX3_foretell_123 (by decide) ?_
      refine g_istore h dX3_foretell_124 (by rw [hL]; decide) ?_
      refine g_sub [(0, ra X (iS s)), (2, .int (foC1 σ s a n)), (3, .int (foC0 σ s a n)), (4, .int (nI 0))] ⟨rfl, rfl, rfl, lk_0, trivial⟩ ?_
      exact LOOP2 n 0 (by omega)
    | succ q ih =>
      intro i hi 
      have hlt : i < n := by omega
      have eO : (setF σ (iO s) (foR1 σ s a) i).1 (iO s i) = σ.1 (iO s i) := setF_off (iO_inj s) (Nat.le_refl i)
      have eT : (setF σ (iO s) (foR1 σ s a) i).1 (iT s i) = σ.1 (iT s i) := setF_ne (fun j hj => iO_T s j s i)
      have eS : (setF σ (iO s) (foR1 σ s a) i).1 (iS s) = σ.1 (iS s) := setF_ne (fun j hj => iO_S s j s (by omega))
      have eW : (setF σ (iO s) (foR1 σ s a) i).1 (iSet s) = σ.1 (iSet s) := setF_ne (fun j hj => iO_Set s j s (by omega))
      have hn : (setF σ (iO s) (foR1 σ s a) i).1 (iS s) 3 = nI n := by rw [eS]; exact hn
      have hgi : oGood (σ.1 (iO s i)) := hg i (by omega)
      generalize hτ : (setF σ (iO s) (foR1 σ s a) i) = τ at eO eT eS eW hn ⊢
      refine g_iload h dX3_foretell_7 rfl ?_
      refine g_aload_n h dX3_foretell_9 rfl ?_
      refine gf3_32 h (by omega) dX3_foretell_10 ?_
      refine g_icge h 123 dX3_foretell_13 (by decide) (fun c13 => absurd c13 (by rw [hn]; exact nI_ge hlt (by omega))) (fun c13 => ?_)
      refine g_aload_n h dX3_foretell_16 rfl ?_
      refine gf3_11 h (by omega) dX3_foretell_17 ?_
      refine g_iload h dX3_foretell_20 rfl ?_
      refine g_aaldO h (by omega) rfl (by omega) dX3_foretell_22 ?_
      refine g_astore h dX3_foretell_23 (by rw [hL]; decide) ?_
      refine g_aload h dX3_foretell_25 rfl ?_
      refine g_aload h dX3_foretell_27 rfl ?_
      refine g_aload_n h dX3_foretell_29 rfl ?_
      refine gf3_25 h (by omega) dX3_foretell_30 ?_
      refine g_iconst (v := 0) h dX3_foretell_33 (by decide) ?_
      refine g_ialdSet h (by omega) nI_0.symm (by decide) dX3_foretell_34 ?_
      refine g_iload_n h dX3_foretell_35 rfl ?_
      refine g_aload_n h dX3_foretell_36 rfl ?_
      refine gf3_55 h (by omega) dX3_foretell_37 ?_
      refine cl3_97 h (by omega) (by omega) (ct_X1_stakeNow hs (by omega) (by rw [eO]; exact hgi)) rfl dX3_foretell_40 rfl (Nat.le_of_ble_eq_true rfl) (by decide) ?_
      refine gp3_101 h (by omega) (by omega) dX3_foretell_43 ?_
      refine g_aload h dX3_foretell_46 rfl ?_
      refine gf3_104 h (by omega) (by omega) dX3_foretell_48 ?_
      refine g_iconst (v := 4) h dX3_foretell_51 (by decide) ?_
      refine g_icne h 58 dX3_foretell_52 (by decide) (fun c52 => ?_) (fun c52 => ?_)
      · simp +decide only [pu_puR, puR_puR, puR_self, puR_id, upd_s, upd_n, puR_ne _ (iO_S s i s (by omega)).symm, puR_ne _ (iO_T s i s i).symm, puR_ne _ (iO_Set s i s (by omega)).symm, oWord_u10, oIn_u10] at c52
        refine g_aload h dX3_foretell_58 rfl ?_
        refine g_aload h dX3_foretell_60 rfl ?_
        refine g_iload_n h dX3_foretell_62 rfl ?_
        refine g_aload_n h dX3_foretell_63 rfl ?_
        refine gf3_55 h (by omega) dX3_foretell_64 ?_
        refine cl3_107 h (by omega) (by omega) (ct_X1_wordOfItsOwn hs (by omega) (by rw [pu_puR, puR_self, eO]; exact oGood_u10 _ hgi)) rfl dX3_foretell_67 rfl (Nat.le_of_ble_eq_true rfl) (by decide) ?_
        refine gp3_111 h (by omega) (by omega) dX3_foretell_70 ?_
        refine g_aload h dX3_foretell_73 rfl ?_
        refine cl3_114 h (by omega) (by omega) (ct_X1_takesPart (by omega) (by omega)) rfl dX3_foretell_75 rfl (Nat.le_of_ble_eq_true rfl) (by decide) ?_
        refine g_ifeqB h 101 dX3_foretell_78 (by decide) (fun c78 => ?_) (fun c78 => ?_)
        · simp +decide only [pu_puR, puR_puR, puR_self, puR_id, upd_s, upd_n, puR_ne _ (iO_S s i s (by omega)).symm, puR_ne _ (iO_T s i s i).symm, puR_ne _ (iO_Set s i s (by omega)).symm, oWord_u10, oIn_u10] at c78
          refine g_aload h dX3_foretell_101 rfl ?_
          refine cl3_114 h (by omega) (by omega) (ct_X1_takesPart (by omega) (by omega)) rfl dX3_foretell_103 rfl (Nat.le_of_ble_eq_true rfl) (by decide) ?_
          refine g_ifeqB h 117 dX3_foretell_106 (by decide) (fun c106 => ?_) (fun c106 => ?_)
          · simp +decide only [pu_puR, puR_puR, puR_self, puR_id, upd_s, upd_n, puR_ne _ (iO_S s i s (by omega)).symm, puR_ne _ (iO_T s i s i).symm, puR_ne _ (iO_Set s i s (by omega)).symm, oWord_u10, oIn_u10] at c106
            refine g_iincN h dX3_foretell_117 rfl (by rw [hL]; decide) ?_
            refine g_goto h 7 dX3_foretell_120 (by decide) ?_
            refine g_mem (setF σ (iO s) (foR1 σ s a) (i + 1)) (by show _ = puR (setF σ (iO s) (foR1 σ s a) i) (iO s i) (foR1 σ s a i); rw [hτ]; simp only [foR1, foSt, foW, ← eO, ← eT, ← eS, ← eW]; first | (simp [pu_puR, puR_puR, puR_self, puR_id, upd_s, upd_n, puR_ne _ (iO_S s i s (by omega)).symm, puR_ne _ (iO_T s i s i).symm, puR_ne _ (iO_Set s i s (by omega)).symm, oWord_u10, oIn_u10, c13, c52, c78, c106]; done) | (simp_all; done)) ?_
            refine g_sub [(0, ra X (iS s)), (1, .int a), (2, .int (foC1 σ s a (i + 1))), (3, .int (foC0 σ s a (i + 1))), (4, .int (nI (i + 1)))] ⟨rfl, rfl, (congrArg (fun z => some (Value.int z)) (by show _ = foC1 σ s a i + (if _ then _ else _); simp only [foW, ← eO, ← eT, ← eS]; first | (simp [pu_puR, puR_puR, puR_self, puR_id, upd_s, upd_n, puR_ne _ (iO_S s i s (by omega)).symm, puR_ne _ (iO_T s i s i).symm, puR_ne _ (iO_Set s i s (by omega)).symm, oWord_u10, oIn_u10, c13, c52, c78, c106]; done) | (simp_all; done))), (congrArg (fun z => some (Value.int z)) (by show _ = foC0 σ s a i + (if _ then _ else _); simp only [foW, ← eO, ← eT, ← eS]; first | (simp [pu_puR, puR_puR, puR_self, puR_id, upd_s, upd_n, puR_ne _ (iO_S s i s (by omega)).symm, puR_ne _ (iO_T s i s i).symm, puR_ne _ (iO_Set s i s (by omega)).symm, oWord_u10, oIn_u10, c13, c52, c78, c106]; done) | (simp_all; done))), rfl, trivial⟩ ?_
            exact ih (i + 1) (by omega)
          · simp +decide only [pu_puR, puR_puR, puR_self, puR_id, upd_s, upd_n, puR_ne _ (iO_S s i s (by omega)).symm, puR_ne _ (iO_T s i s i).symm, puR_ne _ (iO_Set s i s (by omega)).symm, oWord_u10, oIn_u10] at c106
            refine g_iload_n h dX3_foretell_109 rfl ?_
            refine g_aload h dX3_foretell_110 rfl ?_
            refine gf3_85 h (by omega) (by omega) dX3_foretell_112 ?_
            refine g_iadd h dX3_foretell_115 ?_
            refine g_istore_n h dX3_foretell_116 (by rw [hL]; decide) ?_
            refine g_iincN h dX3_foretell_117 rfl (by rw [hL]; decide) ?_
            refine g_goto h 7 dX3_foretell_120 (by decide) ?_
            refine g_mem (setF σ (iO s) (foR1 σ s a) (i + 1)) (by show _ = puR (setF σ (iO s) (foR1 σ s a) i) (iO s i) (foR1 σ s a i); rw [hτ]; simp only [foR1, foSt, foW, ← eO, ← eT, ← eS, ← eW]; first | (simp [pu_puR, puR_puR, puR_self, puR_id, upd_s, upd_n, puR_ne _ (iO_S s i s (by omega)).symm, puR_ne _ (iO_T s i s i).symm, puR_ne _ (iO_Set s i s (by omega)).symm, oWord_u10, oIn_u10, c13, c52, c78, c106]; done) | (simp_all; done)) ?_
            refine g_sub [(0, ra X (iS s)), (1, .int a), (2, .int (foC1 σ s a (i + 1))), (3, .int (foC0 σ s a (i + 1))), (4, .int (nI (i + 1)))] ⟨rfl, rfl, (congrArg (fun z => some (Value.int z)) (by show _ = foC1 σ s a i + (if _ then _ else _); simp only [foW, ← eO, ← eT, ← eS]; first | (simp [pu_puR, puR_puR, puR_self, puR_id, upd_s, upd_n, puR_ne _ (iO_S s i s (by omega)).symm, puR_ne _ (iO_T s i s i).symm, puR_ne _ (iO_Set s i s (by omega)).symm, oWord_u10, oIn_u10, c13, c52, c78, c106]; done) | (simp_all; done))), (congrArg (fun z => some (Value.int z)) (by show _ = foC0 σ s a i + (if _ then _ else _); simp only [foW, ← eO, ← eT, ← eS]; first | (simp [pu_puR, puR_puR, puR_self, puR_id, upd_s, upd_n, puR_ne _ (iO_S s i s (by omega)).symm, puR_ne _ (iO_T s i s i).symm, puR_ne _ (iO_Set s i s (by omega)).symm, oWord_u10, oIn_u10, c13, c52, c78, c106]; done) | (simp_all; done))), rfl, trivial⟩ ?_
            exact ih (i + 1) (by omega)
        · simp +decide only [pu_puR, puR_puR, puR_self, puR_id, upd_s, upd_n, puR_ne _ (iO_S s i s (by omega)).symm, puR_ne _ (iO_T s i s i).symm, puR_ne _ (iO_Set s i s (by omega)).symm, oWord_u10, oIn_u10] at c78
          refine g_aload h dX3_foretell_81 rfl ?_
          refine gf3_111 h (by omega) (by omega) dX3_foretell_83 ?_
          refine g_iconst (v := 1) h dX3_foretell_86 (by decide) ?_
          refine g_icne h 101 dX3_foretell_87 (by decide) (fun c87 => ?_) (fun c87 => ?_)
          · simp +decide only [pu_puR, puR_puR, puR_self, puR_id, upd_s, upd_n, puR_ne _ (iO_S s i s (by omega)).symm, puR_ne _ (iO_T s i s i).symm, puR_ne _ (iO_Set s i s (by omega)).symm, oWord_u10, oIn_u10] at c87
            refine g_aload h dX3_foretell_101 rfl ?_
            refine cl3_114 h (by omega) (by omega) (ct_X1_takesPart (by omega) (by omega)) rfl dX3_foretell_103 rfl (Nat.le_of_ble_eq_true rfl) (by decide) ?_
            refine g_ifeqB h 117 dX3_foretell_106 (by decide) (fun c106 => ?_) (fun c106 => ?_)
            · simp +decide only [pu_puR, puR_puR, puR_self, puR_id, upd_s, upd_n, puR_ne _ (iO_S s i s (by omega)).symm, puR_ne _ (iO_T s i s i).symm, puR_ne _ (iO_Set s i s (by omega)).symm, oWord_u10, oIn_u10] at c106
              refine g_iincN h dX3_foretell_117 rfl (by rw [hL]; decide) ?_
              refine g_goto h 7 dX3_foretell_120 (by decide) ?_
              refine g_mem (setF σ (iO s) (foR1 σ s a) (i + 1)) (by show _ = puR (setF σ (iO s) (foR1 σ s a) i) (iO s i) (foR1 σ s a i); rw [hτ]; simp only [foR1, foSt, foW, ← eO, ← eT, ← eS, ← eW]; first | (simp [pu_puR, puR_puR, puR_self, puR_id, upd_s, upd_n, puR_ne _ (iO_S s i s (by omega)).symm, puR_ne _ (iO_T s i s i).symm, puR_ne _ (iO_Set s i s (by omega)).symm, oWord_u10, oIn_u10, c13, c52, c78, c87, c106]; done) | (simp_all; done)) ?_
              refine g_sub [(0, ra X (iS s)), (1, .int a), (2, .int (foC1 σ s a (i + 1))), (3, .int (foC0 σ s a (i + 1))), (4, .int (nI (i + 1)))] ⟨rfl, rfl, (congrArg (fun z => some (Value.int z)) (by show _ = foC1 σ s a i + (if _ then _ else _); simp only [foW, ← eO, ← eT, ← eS]; first | (simp [pu_puR, puR_puR, puR_self, puR_id, upd_s, upd_n, puR_ne _ (iO_S s i s (by omega)).symm, puR_ne _ (iO_T s i s i).symm, puR_ne _ (iO_Set s i s (by omega)).symm, oWord_u10, oIn_u10, c13, c52, c78, c87, c106]; done) | (simp_all; done))), (congrArg (fun z => some (Value.int z)) (by show _ = foC0 σ s a i + (if _ then _ else _); simp only [foW, ← eO, ← eT, ← eS]; first | (simp [pu_puR, puR_puR, puR_self, puR_id, upd_s, upd_n, puR_ne _ (iO_S s i s (by omega)).symm, puR_ne _ (iO_T s i s i).symm, puR_ne _ (iO_Set s i s (by omega)).symm, oWord_u10, oIn_u10, c13, c52, c78, c87, c106]; done) | (simp_all; done))), rfl, trivial⟩ ?_
              exact ih (i + 1) (by omega)
            · simp +decide only [pu_puR, puR_puR, puR_self, puR_id, upd_s, upd_n, puR_ne _ (iO_S s i s (by omega)).symm, puR_ne _ (iO_T s i s i).symm, puR_ne _ (iO_Set s i s (by omega)).symm, oWord_u10, oIn_u10] at c106
              refine g_iload_n h dX3_foretell_109 rfl ?_
              refine g_aload h dX3_foretell_110 rfl ?_
              refine gf3_85 h (by omega) (by omega) dX3_foretell_112 ?_
              refine g_iadd h dX3_foretell_115 ?_
              refine g_istore_n h dX3_foretell_116 (by rw [hL]; decide) ?_
              refine g_iincN h dX3_foretell_117 rfl (by rw [hL]; decide) ?_
              refine g_goto h 7 dX3_foretell_120 (by decide) ?_
              refine g_mem (setF σ (iO s) (foR1 σ s a) (i + 1)) (by show _ = puR (setF σ (iO s) (foR1 σ s a) i) (iO s i) (foR1 σ s a i); rw [hτ]; simp only [foR1, foSt, foW, ← eO, ← eT, ← eS, ← eW]; first | (simp [pu_puR, puR_puR, puR_self, puR_id, upd_s, upd_n, puR_ne _ (iO_S s i s (by omega)).symm, puR_ne _ (iO_T s i s i).symm, puR_ne _ (iO_Set s i s (by omega)).symm, oWord_u10, oIn_u10, c13, c52, c78, c87, c106]; done) | (simp_all; done)) ?_
              refine g_sub [(0, ra X (iS s)), (1, .int a), (2, .int (foC1 σ s a (i + 1))), (3, .int (foC0 σ s a (i + 1))), (4, .int (nI (i + 1)))] ⟨rfl, rfl, (congrArg (fun z => some (Value.int z)) (by show _ = foC1 σ s a i + (if _ then _ else _); simp only [foW, ← eO, ← eT, ← eS]; first | (simp [pu_puR, puR_puR, puR_self, puR_id, upd_s, upd_n, puR_ne _ (iO_S s i s (by omega)).symm, puR_ne _ (iO_T s i s i).symm, puR_ne _ (iO_Set s i s (by omega)).symm, oWord_u10, oIn_u10, c13, c52, c78, c87, c106]; done) | (simp_all; done))), (congrArg (fun z => some (Value.int z)) (by show _ = foC0 σ s a i + (if _ then _ else _); simp only [foW, ← eO, ← eT, ← eS]; first | (simp [pu_puR, puR_puR, puR_self, puR_id, upd_s, upd_n, puR_ne _ (iO_S s i s (by omega)).symm, puR_ne _ (iO_T s i s i).symm, puR_ne _ (iO_Set s i s (by omega)).symm, oWord_u10, oIn_u10, c13, c52, c78, c87, c106]; done) | (simp_all; done))), rfl, trivial⟩ ?_
              exact ih (i + 1) (by omega)
          · simp +decide only [pu_puR, puR_puR, puR_self, puR_id, upd_s, upd_n, puR_ne _ (iO_S s i s (by omega)).symm, puR_ne _ (iO_T s i s i).symm, puR_ne _ (iO_Set s i s (by omega)).symm, oWord_u10, oIn_u10] at c87
            refine g_iload_n h dX3_foretell_90 rfl ?_
            refine g_aload h dX3_foretell_91 rfl ?_
            refine gf3_85 h (by omega) (by omega) dX3_foretell_93 ?_
            refine g_iadd h dX3_foretell_96 ?_
            refine g_istore_n h dX3_foretell_97 (by rw [hL]; decide) ?_
            refine g_goto h 117 dX3_foretell_98 (by decide) ?_
            refine g_iincN h dX3_foretell_117 rfl (by rw [hL]; decide) ?_
            refine g_goto h 7 dX3_foretell_120 (by decide) ?_
            refine g_mem (setF σ (iO s) (foR1 σ s a) (i + 1)) (by show _ = puR (setF σ (iO s) (foR1 σ s a) i) (iO s i) (foR1 σ s a i); rw [hτ]; simp only [foR1, foSt, foW, ← eO, ← eT, ← eS, ← eW]; first | (simp [pu_puR, puR_puR, puR_self, puR_id, upd_s, upd_n, puR_ne _ (iO_S s i s (by omega)).symm, puR_ne _ (iO_T s i s i).symm, puR_ne _ (iO_Set s i s (by omega)).symm, oWord_u10, oIn_u10, c13, c52, c78, c87]; done) | (simp_all; done)) ?_
            refine g_sub [(0, ra X (iS s)), (1, .int a), (2, .int (foC1 σ s a (i + 1))), (3, .int (foC0 σ s a (i + 1))), (4, .int (nI (i + 1)))] ⟨rfl, rfl, (congrArg (fun z => some (Value.int z)) (by show _ = foC1 σ s a i + (if _ then _ else _); simp only [foW, ← eO, ← eT, ← eS]; first | (simp [pu_puR, puR_puR, puR_self, puR_id, upd_s, upd_n, puR_ne _ (iO_S s i s (by omega)).symm, puR_ne _ (iO_T s i s i).symm, puR_ne _ (iO_Set s i s (by omega)).symm, oWord_u10, oIn_u10, c13, c52, c78, c87]; done) | (simp_all; done))), (congrArg (fun z => some (Value.int z)) (by show _ = foC0 σ s a i + (if _ then _ else _); simp only [foW, ← eO, ← eT, ← eS]; first | (simp [pu_puR, puR_puR, puR_self, puR_id, upd_s, upd_n, puR_ne _ (iO_S s i s (by omega)).symm, puR_ne _ (iO_T s i s i).symm, puR_ne _ (iO_Set s i s (by omega)).symm, oWord_u10, oIn_u10, c13, c52, c78, c87]; done) | (simp_all; done))), rfl, trivial⟩ ?_
            exact ih (i + 1) (by omega)
      · simp +decide only [pu_puR, puR_puR, puR_self, puR_id, upd_s, upd_n, puR_ne _ (iO_S s i s (by omega)).symm, puR_ne _ (iO_T s i s i).symm, puR_ne _ (iO_Set s i s (by omega)).symm, oWord_u10, oIn_u10] at c52
        refine g_goto h 117 dX3_foretell_55 (by decide) ?_
        refine g_iincN h dX3_foretell_117 rfl (by rw [hL]; decide) ?_
        refine g_goto h 7 dX3_foretell_120 (by decide) ?_
        refine g_mem (setF σ (iO s) (foR1 σ s a) (i + 1)) (by show _ = puR (setF σ (iO s) (foR1 σ s a) i) (iO s i) (foR1 σ s a i); rw [hτ]; simp only [foR1, foSt, foW, ← eO, ← eT, ← eS, ← eW]; first | (simp [pu_puR, puR_puR, puR_self, puR_id, upd_s, upd_n, puR_ne _ (iO_S s i s (by omega)).symm, puR_ne _ (iO_T s i s i).symm, puR_ne _ (iO_Set s i s (by omega)).symm, oWord_u10, oIn_u10, c13, c52]; done) | (simp_all; done)) ?_
        refine g_sub [(0, ra X (iS s)), (1, .int a), (2, .int (foC1 σ s a (i + 1))), (3, .int (foC0 σ s a (i + 1))), (4, .int (nI (i + 1)))] ⟨rfl, rfl, (congrArg (fun z => some (Value.int z)) (by show _ = foC1 σ s a i + (if _ then _ else _); simp only [foW, ← eO, ← eT, ← eS]; first | (simp [pu_puR, puR_puR, puR_self, puR_id, upd_s, upd_n, puR_ne _ (iO_S s i s (by omega)).symm, puR_ne _ (iO_T s i s i).symm, puR_ne _ (iO_Set s i s (by omega)).symm, oWord_u10, oIn_u10, c13, c52]; done) | (simp_all; done))), (congrArg (fun z => some (Value.int z)) (by show _ = foC0 σ s a i + (if _ then _ else _); simp only [foW, ← eO, ← eT, ← eS]; first | (simp [pu_puR, puR_puR, puR_self, puR_id, upd_s, upd_n, puR_ne _ (iO_S s i s (by omega)).symm, puR_ne _ (iO_T s i s i).symm, puR_ne _ (iO_Set s i s (by omega)).symm, oWord_u10, oIn_u10, c13, c52]; done) | (simp_all; done))), rfl, trivial⟩ ?_
        exact ih (i + 1) (by omega)
  refine g_iconst (v := 0) h dX3_foretell_0 (by decide) ?_
  refine g_istore_n h dX3_foretell_1 (by rw [hL]; decide) ?_
  refine g_iconst (v := 0) h dX3_foretell_2 (by decide) ?_
  refine g_istore_n h dX3_foretell_3 (by rw [hL]; decide) ?_
  refine g_iconst (v := 0) h dX3_foretell_4 (by decide) ?_
  refine g_istore h dX3_foretell_5 (by rw [hL]; decide) ?_
  refine g_sub [(0, ra X (iS s)), (1, .int a), (2, .int (foC1 σ s a 0)), (3, .int (foC0 σ s a 0)), (4, .int (nI 0))] ⟨rfl, rfl, rfl, rfl, lk_0, trivial⟩ ?_
  exact LOOP1 n 0 (by omega)

def kept (σ : fM) (s : Nat) (k : Int32) (i : Nat) : Nat → Int32 := if σ.1 (iO s i) 10 ≤ 0 then σ.1 (iO s i) else oNote (σ.1 (iO s i)) (if σ.1 (iO s i) 9 = k then 1 else 0)

set_option maxRecDepth 100000 in
set_option maxHeartbeats 4000000 in
theorem ct_X3_keepRecords {l : Launch} {X : fX} {σ : fM} {s n m : Nat} (hs : s < 6) (hc : cnt σ s n m) {k : Int32} : Ct l X yX3_keepRecords cX3_keepRecords 3 none 2 [ra X (iS s), .int k] σ none (setF σ (iO s) (kept σ s k) n) := by
  refine Ct.of RX3 rfl (by decide) (Nat.le_of_ble_eq_true rfl) ?_
  intro x hL h hr
  refine g_sub [(0, ra X (iS s)), (1, .int k)] ⟨rfl, rfl, trivial⟩ ?_
  obtain ⟨hn, hm, hn6, hm8⟩ := id hc
  have LOOP : ∀ (q i : Nat), i + q = n → G x X (setF σ (iO s) (kept σ s k) i) [(0, ra X (iS s)), (1, .int k), (2, .int (nI i))] [] 2 := by
    intro q
    induction q with
    | zero =>
      intro i hi 
      have hie : i = n := by omega
      rw [hie]
      have hn : (setF σ (iO s) (kept σ s k) n).1 (iS s) 3 = nI n := by rw [show (setF σ (iO s) (kept σ s k) n).1 (iS s) = σ.1 (iS s) from setF_ne (fun j hj => iO_S s j s (by omega))]; exact hn
      refine g_iload_n h dX3_keepRecords_2 rfl ?_
      refine g_aload_n h dX3_keepRecords_3 rfl ?_
      refine gf3_32 h (by omega) dX3_keepRecords_4 ?_
      refine g_icge h 55 dX3_keepRecords_7 (by decide) (fun c7 => ?_) (fun c7 => absurd (by rw [hn]; exact Int32.le_refl _) c7)
      exact g_vret h hr dX3_keepRecords_55 rfl
    | succ q ih =>
      intro i hi 
      have hlt : i < n := by omega
      have eO : (setF σ (iO s) (kept σ s k) i).1 (iO s i) = σ.1 (iO s i) := setF_off (iO_inj s) (Nat.le_refl i)
      have hn : (setF σ (iO s) (kept σ s k) i).1 (iS s) 3 = nI n := by rw [show (setF σ (iO s) (kept σ s k) i).1 (iS s) = σ.1 (iS s) from setF_ne (fun j hj => iO_S s j s (by omega))]; exact hn
      generalize hτ : (setF σ (iO s) (kept σ s k) i) = τ at eO hn ⊢
      refine g_iload_n h dX3_keepRecords_2 rfl ?_
      refine g_aload_n h dX3_keepRecords_3 rfl ?_
      refine gf3_32 h (by omega) dX3_keepRecords_4 ?_
      refine g_icge h 55 dX3_keepRecords_7 (by decide) (fun c7 => absurd c7 (by rw [hn]; exact nI_ge hlt (by omega))) (fun c7 => ?_)
      refine g_aload_n h dX3_keepRecords_10 rfl ?_
      refine gf3_11 h (by omega) dX3_keepRecords_11 ?_
      refine g_iload_n h dX3_keepRecords_14 rfl ?_
      refine g_aaldO h (by omega) rfl (by omega) dX3_keepRecords_15 ?_
      refine gf3_101 h (by omega) (by omega) dX3_keepRecords_16 ?_
      refine g_ifle h 49 dX3_keepRecords_19 (by decide) (fun c19 => ?_) (fun c19 => ?_)
      · refine g_iincN h dX3_keepRecords_49 rfl (by rw [hL]; decide) ?_
        refine g_goto h 2 dX3_keepRecords_52 (by decide) ?_
        refine g_mem (setF σ (iO s) (kept σ s k) (i + 1)) (by show _ = puR (setF σ (iO s) (kept σ s k) i) (iO s i) (kept σ s k i); rw [hτ]; simp only [kept, ← eO]; simp [pu_puR, puR_puR, puR_self, puR_id, c7, c19]) ?_
        refine g_sub [(0, ra X (iS s)), (1, .int k), (2, .int (nI (i + 1)))] ⟨rfl, rfl, rfl, trivial⟩ ?_
        exact ih (i + 1) (by omega)
      · refine g_aload_n h dX3_keepRecords_22 rfl ?_
        refine gf3_11 h (by omega) dX3_keepRecords_23 ?_
        refine g_iload_n h dX3_keepRecords_26 rfl ?_
        refine g_aaldO h (by omega) rfl (by omega) dX3_keepRecords_27 ?_
        refine g_aload_n h dX3_keepRecords_28 rfl ?_
        refine gf3_11 h (by omega) dX3_keepRecords_29 ?_
        refine g_iload_n h dX3_keepRecords_32 rfl ?_
        refine g_aaldO h (by omega) rfl (by omega) dX3_keepRecords_33 ?_
        refine gf3_111 h (by omega) (by omega) dX3_keepRecords_34 ?_
        refine g_iload_n h dX3_keepRecords_37 rfl ?_
        refine g_icne h 45 dX3_keepRecords_38 (by decide) (fun c38 => ?_) (fun c38 => ?_)
        · refine g_iconst (v := 0) h dX3_keepRecords_45 (by decide) ?_
          refine cl3_146 h (by omega) (by omega) (ct_X1_note (by omega) (by omega)) rfl dX3_keepRecords_46 rfl (Nat.le_of_ble_eq_true rfl) (by decide) ?_
          refine g_iincN h dX3_keepRecords_49 rfl (by rw [hL]; decide) ?_
          refine g_goto h 2 dX3_keepRecords_52 (by decide) ?_
          refine g_mem (setF σ (iO s) (kept σ s k) (i + 1)) (by show _ = puR (setF σ (iO s) (kept σ s k) i) (iO s i) (kept σ s k i); rw [hτ]; simp only [kept, ← eO]; simp [pu_puR, puR_puR, puR_self, puR_id, c7, c19, c38]) ?_
          refine g_sub [(0, ra X (iS s)), (1, .int k), (2, .int (nI (i + 1)))] ⟨rfl, rfl, rfl, trivial⟩ ?_
          exact ih (i + 1) (by omega)
        · refine g_iconst (v := 1) h dX3_keepRecords_41 (by decide) ?_
          refine g_goto h 46 dX3_keepRecords_42 (by decide) ?_
          refine cl3_146 h (by omega) (by omega) (ct_X1_note (by omega) (by omega)) rfl dX3_keepRecords_46 rfl (Nat.le_of_ble_eq_true rfl) (by decide) ?_
          refine g_iincN h dX3_keepRecords_49 rfl (by rw [hL]; decide) ?_
          refine g_goto h 2 dX3_keepRecords_52 (by decide) ?_
          refine g_mem (setF σ (iO s) (kept σ s k) (i + 1)) (by show _ = puR (setF σ (iO s) (kept σ s k) i) (iO s i) (kept σ s k i); rw [hτ]; simp only [kept, ← eO]; simp [pu_puR, puR_puR, puR_self, puR_id, c7, c19, c38]) ?_
          refine g_sub [(0, ra X (iS s)), (1, .int k), (2, .int (nI (i + 1)))] ⟨rfl, rfl, rfl, trivial⟩ ?_
          exact ih (i + 1) (by omega)
  refine g_iconst (v := 0) h dX3_keepRecords_0 (by decide) ?_
  refine g_istore_n h dX3_keepRecords_1 (by rw [hL]; decide) ?_
  refine g_sub [(0, ra X (iS s)), (1, .int k), (2, .int (nI 0))] ⟨rfl, rfl, lk_0, trivial⟩ ?_
  exact LOOP n 0 (by omega)

def lrn (σ : fM) (s : Nat) (a k : Int32) (i : Nat) : Nat → Int32 := if oTab (σ.1 (iO s i)) = true then upd (σ.1 (iT s i)) (oSlot (σ.1 (iO s i)) a (σ.1 (iS s) 6)).toNatClampNeg (oLrn (σ.1 (iT s i) (oSlot (σ.1 (iO s i)) a (σ.1 (iS s) 6)).toNatClampNeg) k) else σ.1 (iT s i)
def lrnS (f : Nat → Int32) (k : Int32) : Nat → Int32 := upd (upd f 6 ((2 * f 6 + k) &&& 255)) 7 (f 7 + 1)
def learnM (σ : fM) (s n : Nat) (a k : Int32) : fM := puL (puR (setF σ (iT s) (lrn σ s a k) n) (iS s) (lrnS (σ.1 (iS s)) k)) (iS s) (σ.2 (iS s) ||| ((1 : Int64) <<< (a.toInt64 &&& 63)))

set_option maxRecDepth 100000 in
set_option maxHeartbeats 4000000 in
theorem ct_X3_learnFrom {l : Launch} {X : fX} {σ : fM} {s n m : Nat} (hs : s < 6) (hc : cnt σ s n m) {a k : Int32} (hg : ∀ i, i < n → oGood (σ.1 (iO s i))) : Ct l X yX3_learnFrom cX3_learnFrom 4 none 3 [ra X (iS s), .int a, .int k] σ none (learnM σ s n a k) := by
  refine Ct.of RX3 rfl (by decide) (Nat.le_of_ble_eq_true rfl) ?_
  intro x hL h hr
  refine g_sub [(0, ra X (iS s)), (1, .int a), (2, .int k)] ⟨rfl, rfl, rfl, trivial⟩ ?_
  obtain ⟨hn, hm, hn6, hm8⟩ := id hc
  have LOOP : ∀ (q i : Nat), i + q = n → G x X (setF σ (iT s) (lrn σ s a k) i) [(0, ra X (iS s)), (1, .int a), (2, .int k), (3, .int (nI i))] [] 2 := by
    intro q
    induction q with
    | zero =>
      intro i hi 
      have hie : i = n := by omega
      rw [hie]
      have eS : (setF σ (iT s) (lrn σ s a k) n).1 (iS s) = σ.1 (iS s) := setF_ne (fun j hj => iT_S s j s (by omega))
      have hn : (setF σ (iT s) (lrn σ s a k) n).1 (iS s) 3 = nI n := by rw [eS]; exact hn
      refine g_iload_n h dX3_learnFrom_2 rfl ?_
      refine g_aload_n h dX3_learnFrom_3 rfl ?_
      refine gf3_32 h (by omega) dX3_learnFrom_4 ?_
      refine g_icge h 43 dX3_learnFrom_7 (by decide) (fun c7 => ?_) (fun c7 => absurd (by rw [hn]; exact Int32.le_refl _) c7)
      refine g_aload_n h dX3_learnFrom_43 rfl ?_
      refine g_iconst (v := 2) h dX3_learnFrom_44 (by decide) ?_
      refine g_aload_n h dX3_learnFrom_45 rfl ?_
      refine gf3_55 h (by omega) dX3_learnFrom_46 ?_
      refine g_imul h dX3_learnFrom_49 ?_
      refine g_iload_n h dX3_learnFrom_50 rfl ?_
      refine g_iadd h dX3_learnFrom_51 ?_
      refine g_sipush (v := 255) h dX3_learnFrom_52 (by decide) ?_
      refine g_iand h dX3_learnFrom_55 ?_
      refine gp3_55 h (by omega) dX3_learnFrom_56 ?_
      refine g_aload_n h dX3_learnFrom_59 rfl ?_
      refine g_dup h dX3_learnFrom_60 rfl ?_
      refine gf3_58 h (by omega) dX3_learnFrom_61 ?_
      refine g_iconst (v := 1) h dX3_learnFrom_64 (by decide) ?_
      refine g_iadd h dX3_learnFrom_65 ?_
      refine gp3_58 h (by omega) dX3_learnFrom_66 ?_
      refine g_aload_n h dX3_learnFrom_69 rfl ?_
      refine g_dup h dX3_learnFrom_70 rfl ?_
      refine gf3_64 h (by omega) dX3_learnFrom_71 ?_
      refine g_lconst (v := 1) h dX3_learnFrom_74 (by decide) ?_
      refine g_iload_n h dX3_learnFrom_75 rfl ?_
      refine g_lshl h dX3_learnFrom_76 ?_
      refine g_lor h dX3_learnFrom_77 ?_
      refine gp3_64 h (by omega) dX3_learnFrom_78 ?_
      exact g_vret h hr dX3_learnFrom_81 (by unfold learnM lrnS; rw [show σ.2 = ((setF σ (iT s) (lrn σ s a k) n)).2 from (setF_2 _ _ _ _).symm, ← eS]; simp only [pu_puR, puR_puR, puR_self, upd_n _ _ _ _ (show ¬ (7 : Nat) = 6 by decide)]; rfl)
    | succ q ih =>
      intro i hi 
      have hlt : i < n := by omega
      have eO : (setF σ (iT s) (lrn σ s a k) i).1 (iO s i) = σ.1 (iO s i) := setF_ne (fun j hj => (iO_T s i s j).symm)
      have eT : (setF σ (iT s) (lrn σ s a k) i).1 (iT s i) = σ.1 (iT s i) := setF_off (iT_inj s) (Nat.le_refl i)
      have eS : (setF σ (iT s) (lrn σ s a k) i).1 (iS s) = σ.1 (iS s) := setF_ne (fun j hj => iT_S s j s (by omega))
      have hn : (setF σ (iT s) (lrn σ s a k) i).1 (iS s) 3 = nI n := by rw [eS]; exact hn
      have hgi : oGood (σ.1 (iO s i)) := hg i (by omega)
      generalize hτ : (setF σ (iT s) (lrn σ s a k) i) = τ at eO eT eS hn ⊢
      refine g_iload_n h dX3_learnFrom_2 rfl ?_
      refine g_aload_n h dX3_learnFrom_3 rfl ?_
      refine gf3_32 h (by omega) dX3_learnFrom_4 ?_
      refine g_icge h 43 dX3_learnFrom_7 (by decide) (fun c7 => absurd c7 (by rw [hn]; exact nI_ge hlt (by omega))) (fun c7 => ?_)
      refine g_aload_n h dX3_learnFrom_10 rfl ?_
      refine gf3_11 h (by omega) dX3_learnFrom_11 ?_
      refine g_iload_n h dX3_learnFrom_14 rfl ?_
      refine g_aaldO h (by omega) rfl (by omega) dX3_learnFrom_15 ?_
      refine cl3_150 h (by omega) (by omega) (ct_X1_hasTable (by omega) (by omega)) rfl dX3_learnFrom_16 rfl (Nat.le_of_ble_eq_true rfl) (by decide) ?_
      refine g_ifeqB h 37 dX3_learnFrom_19 (by decide) (fun c19 => ?_) (fun c19 => ?_)
      · refine g_iincN h dX3_learnFrom_37 rfl (by rw [hL]; decide) ?_
        refine g_goto h 2 dX3_learnFrom_40 (by decide) ?_
        refine g_mem (setF σ (iT s) (lrn σ s a k) (i + 1)) (by show _ = puR (setF σ (iT s) (lrn σ s a k) i) (iT s i) (lrn σ s a k i); rw [hτ]; simp only [lrn, ← eO, ← eT, ← eS]; simp [pu_puR, puR_puR, puR_self, puR_id, c7, c19]) ?_
        refine g_sub [(0, ra X (iS s)), (1, .int a), (2, .int k), (3, .int (nI (i + 1)))] ⟨rfl, rfl, rfl, rfl, trivial⟩ ?_
        exact ih (i + 1) (by omega)
      · refine g_aload_n h dX3_learnFrom_22 rfl ?_
        refine gf3_11 h (by omega) dX3_learnFrom_23 ?_
        refine g_iload_n h dX3_learnFrom_26 rfl ?_
        refine g_aaldO h (by omega) rfl (by omega) dX3_learnFrom_27 ?_
        refine g_iload_n h dX3_learnFrom_28 rfl ?_
        refine g_iload_n h dX3_learnFrom_29 rfl ?_
        refine g_aload_n h dX3_learnFrom_30 rfl ?_
        refine gf3_55 h (by omega) dX3_learnFrom_31 ?_
        refine cl3_153 h (by omega) (by omega) (ct_X1_learn hs (by omega) (by rw [eO]; exact hgi) c19) rfl dX3_learnFrom_34 rfl (Nat.le_of_ble_eq_true rfl) (by decide) ?_
        refine g_iincN h dX3_learnFrom_37 rfl (by rw [hL]; decide) ?_
        refine g_goto h 2 dX3_learnFrom_40 (by decide) ?_
        refine g_mem (setF σ (iT s) (lrn σ s a k) (i + 1)) (by show _ = puR (setF σ (iT s) (lrn σ s a k) i) (iT s i) (lrn σ s a k i); rw [hτ]; simp only [lrn, ← eO, ← eT, ← eS]; simp [pu_puR, puR_puR, puR_self, puR_id, c7, c19]) ?_
        refine g_sub [(0, ra X (iS s)), (1, .int a), (2, .int k), (3, .int (nI (i + 1)))] ⟨rfl, rfl, rfl, rfl, trivial⟩ ?_
        exact ih (i + 1) (by omega)
  refine g_iconst (v := 0) h dX3_learnFrom_0 (by decide) ?_
  refine g_istore_n h dX3_learnFrom_1 (by rw [hL]; decide) ?_
  refine g_sub [(0, ra X (iS s)), (1, .int a), (2, .int k), (3, .int (nI 0))] ⟨rfl, rfl, rfl, lk_0, trivial⟩ ?_
  exact LOOP n 0 (by omega)
end
