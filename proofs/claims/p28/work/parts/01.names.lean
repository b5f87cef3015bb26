/-! PART A of the skeleton, and the printed names: starting texts -/
-- ===== PART A: goes FIRST, ahead of the names: the tables' words, and 'selects' of the private methods out of them =====
/-- a private method of a class that the tables say can be made, by its rows of tables_1 -/
def lw_okq (q : MethodName × Nat) : Prop := (q.1.cls ≠ "java/lang/invoke/MethodHandle" ∧ q.1.cls ≠ "java/lang/invoke/VarHandle") ∧ Cond.instantiable q.1.cls q.2 ∈ tables_1 ∧ Cond.privateMethod q.1 ∈ tables_1 ∧ Cond.instanceMethod q.1 ∈ tables_1
theorem lw_p0 : lw_okq (⟨"BranchBets", "isOracle", "(I)Z"⟩, 4) := ⟨⟨by decide +kernel, by decide +kernel⟩, List.mem_of_getElem? (i := 10) (by decide +kernel), List.mem_of_getElem? (i := 258) (by decide +kernel), List.mem_of_getElem? (i := 259) (by decide +kernel)⟩
theorem lw_p1 : lw_okq (⟨"BranchBets", "purseBehind", "(IIII)I"⟩, 4) := ⟨⟨by decide +kernel, by decide +kernel⟩, List.mem_of_getElem? (i := 10) (by decide +kernel), List.mem_of_getElem? (i := 511) (by decide +kernel), List.mem_of_getElem? (i := 512) (by decide +kernel)⟩
def lw_privs_1 : List (MethodName × Nat) := [(⟨"BranchBets", "isOracle", "(I)Z"⟩, 4), (⟨"BranchBets", "purseBehind", "(IIII)I"⟩, 4)]
theorem lw_r1 : ∀ q ∈ lw_privs_1, lw_okq q := List.forall_mem_cons.mpr ⟨lw_p0, List.forall_mem_cons.mpr ⟨lw_p1, fun _ h => absurd h List.not_mem_nil⟩⟩
def lw_privs : List (MethodName × Nat) := lw_privs_1
def lw_tbl : List Cond := k2_sels lw_privs ++ tables_1
theorem lw_privs_ok : ∀ q ∈ lw_privs, lw_okq q := lw_r1
/-- the streams that the claim lets the run draw from -/
abbrev lw_cs : List Choice := [Jvm.Choice.named "NaN.bits"]
theorem lw_bits : nanBits ∈ lw_cs := by first | decide | exact List.mem_cons_self | simp [lw_cs, nanBits]
def RX0 : String := "BranchBets$Loan"
def TX0 : u_T := fun k => match k with
  | 0 => ("BranchBets$Loan", "creditor", "I", false)
  | 1 => ("BranchBets$Loan", "debtor", "I", false)
  | _ => ("BranchBets$Loan", "owed", "I", false)
def tyX0 : Nat → FieldType := fun k => match k with
  | 0 => .int
  | 1 => .int
  | _ => .int
abbrev wsX00 : List Cond := u_ws RX0 TX0 3
theorem nmX0 : ∀ a, a < 3 → ∀ b, b < 3 → a ≠ b → (TX0 a).2.1 ≠ (TX0 b).2.1 := by decide +kernel
theorem tyX0_ok : ∀ k, k < 3 → parseFieldDescriptor (TX0 k).2.2.1 = some (tyX0 k) := by decide +kernel
abbrev cX0_init : ByteArray := prog_2_method_1_code
def yX0_init : MethodName := ⟨RX0, "<init>", "()V"⟩
abbrev cX0_copyFrom : ByteArray := prog_2_method_2_code
def yX0_copyFrom : MethodName := ⟨RX0, "copyFrom", "(LBranchBets$Loan;)V"⟩
def RX1 : String := "BranchBets$Oracle"
def TX1 : u_T := fun k => match k with
  | 0 => ("BranchBets$Oracle", "kind", "I", false)
  | 1 => ("BranchBets$Oracle", "number", "I", false)
  | 2 => ("BranchBets$Oracle", "purse", "I", false)
  | 3 => ("BranchBets$Oracle", "booth", "I", false)
  | 4 => ("BranchBets$Oracle", "place", "I", false)
  | 5 => ("BranchBets$Oracle", "right", "I", false)
  | 6 => ("BranchBets$Oracle", "wrong", "I", false)
  | 7 => ("BranchBets$Oracle", "record", "I", false)
  | 8 => ("BranchBets$Oracle", "ruins", "I", false)
  | 9 => ("BranchBets$Oracle", "said", "I", false)
  | 10 => ("BranchBets$Oracle", "staked", "I", false)
  | _ => ("BranchBets$Oracle", "table", "[I", true)
def tyX1 : Nat → FieldType := fun k => match k with
  | 0 => .int
  | 1 => .int
  | 2 => .int
  | 3 => .int
  | 4 => .int
  | 5 => .int
  | 6 => .int
  | 7 => .int
  | 8 => .int
  | 9 => .int
  | 10 => .int
  | _ => .array .int
abbrev wsX10 : List Cond := u_ws RX1 TX1 12
theorem nmX1 : ∀ a, a < 12 → ∀ b, b < 12 → a ≠ b → (TX1 a).2.1 ≠ (TX1 b).2.1 := by decide +kernel
theorem tyX1_ok : ∀ k, k < 12 → parseFieldDescriptor (TX1 k).2.2.1 = some (tyX1 k) := by decide +kernel
abbrev cX1_init : ByteArray := prog_3_method_1_code
def yX1_init : MethodName := ⟨RX1, "<init>", "()V"⟩
abbrev cX1_begin : ByteArray := prog_3_method_2_code
def yX1_begin : MethodName := ⟨RX1, "begin", "(III)V"⟩
abbrev cX1_copyFrom : ByteArray := prog_3_method_3_code
def yX1_copyFrom : MethodName := ⟨RX1, "copyFrom", "(LBranchBets$Oracle;)V"⟩
abbrev cX1_hasSeat : ByteArray := prog_3_method_4_code
def yX1_hasSeat : MethodName := ⟨RX1, "hasSeat", "()Z"⟩
abbrev cX1_isRuined : ByteArray := prog_3_method_5_code
def yX1_isRuined : MethodName := ⟨RX1, "isRuined", "()Z"⟩
abbrev cX1_takesPart : ByteArray := prog_3_method_6_code
def yX1_takesPart : MethodName := ⟨RX1, "takesPart", "()Z"⟩
abbrev cX1_hasTable : ByteArray := prog_3_method_7_code
def yX1_hasTable : MethodName := ⟨RX1, "hasTable", "()Z"⟩
abbrev cX1_tableSize : ByteArray := prog_3_method_8_code
def yX1_tableSize : MethodName := ⟨RX1, "tableSize", "()I"⟩
abbrev cX1_slotOf : ByteArray := prog_3_method_9_code
def yX1_slotOf : MethodName := ⟨RX1, "slotOf", "(II)I"⟩
abbrev cX1_wordOfItsOwn : ByteArray := prog_3_method_10_code
def yX1_wordOfItsOwn : MethodName := ⟨RX1, "wordOfItsOwn", "(II)I"⟩
abbrev cX1_stakeNow : ByteArray := prog_3_method_11_code
def yX1_stakeNow : MethodName := ⟨RX1, "stakeNow", "(III)I"⟩
abbrev cX1_learn : ByteArray := prog_3_method_12_code
def yX1_learn : MethodName := ⟨RX1, "learn", "(III)V"⟩
abbrev cX1_note : ByteArray := prog_3_method_13_code
def yX1_note : MethodName := ⟨RX1, "note", "(Z)V"⟩
def RX2 : String := "BranchBets$Past"
def TX2 : u_T := fun k => match k with
  | 0 => ("BranchBets$Past", "states", "[LBranchBets$State;", true)
  | 1 => ("BranchBets$Past", "first", "I", false)
  | _ => ("BranchBets$Past", "size", "I", false)
def tyX2 : Nat → FieldType := fun k => match k with
  | 0 => .array (.object "BranchBets$State")
  | 1 => .int
  | _ => .int
abbrev wsX20 : List Cond := u_ws RX2 TX2 3
theorem nmX2 : ∀ a, a < 3 → ∀ b, b < 3 → a ≠ b → (TX2 a).2.1 ≠ (TX2 b).2.1 := by decide +kernel
theorem tyX2_ok : ∀ k, k < 3 → parseFieldDescriptor (TX2 k).2.2.1 = some (tyX2 k) := by decide +kernel
abbrev cX2_init : ByteArray := prog_4_method_1_code
def yX2_init : MethodName := ⟨RX2, "<init>", "()V"⟩
abbrev cX2_keep : ByteArray := prog_4_method_2_code
def yX2_keep : MethodName := ⟨RX2, "keep", "(LBranchBets$State;)V"⟩
def RX3 : String := "BranchBets$State"
def TX3 : u_T := fun k => match k with
  | 0 => ("BranchBets$State", "oracles", "[LBranchBets$Oracle;", true)
  | 1 => ("BranchBets$State", "loans", "[LBranchBets$Loan;", true)
  | 2 => ("BranchBets$State", "settings", "[I", true)
  | 3 => ("BranchBets$State", "oracleCount", "I", false)
  | 4 => ("BranchBets$State", "loanCount", "I", false)
  | 5 => ("BranchBets$State", "houseCoins", "I", false)
  | 6 => ("BranchBets$State", "history", "I", false)
  | 7 => ("BranchBets$State", "branches", "I", false)
  | 8 => ("BranchBets$State", "bets", "I", false)
  | _ => ("BranchBets$State", "seenAddresses", "J", false)
def tyX3 : Nat → FieldType := fun k => match k with
  | 0 => .array (.object "BranchBets$Oracle")
  | 1 => .array (.object "BranchBets$Loan")
  | 2 => .array .int
  | 3 => .int
  | 4 => .int
  | 5 => .int
  | 6 => .int
  | 7 => .int
  | 8 => .int
  | _ => .long
abbrev wsX30 : List Cond := u_ws RX3 TX3 10
theorem nmX3 : ∀ a, a < 10 → ∀ b, b < 10 → a ≠ b → (TX3 a).2.1 ≠ (TX3 b).2.1 := by decide +kernel
theorem tyX3_ok : ∀ k, k < 10 → parseFieldDescriptor (TX3 k).2.2.1 = some (tyX3 k) := by decide +kernel
abbrev cX3_init : ByteArray := prog_5_method_1_code
def yX3_init : MethodName := ⟨RX3, "<init>", "()V"⟩
abbrev cX3_copyFrom : ByteArray := prog_5_method_2_code
def yX3_copyFrom : MethodName := ⟨RX3, "copyFrom", "(LBranchBets$State;)V"⟩
abbrev cX3_sittersOf : ByteArray := prog_5_method_3_code
def yX3_sittersOf : MethodName := ⟨RX3, "sittersOf", "(I)I"⟩
abbrev cX3_lowestFreeSeat : ByteArray := prog_5_method_4_code
def yX3_lowestFreeSeat : MethodName := ⟨RX3, "lowestFreeSeat", "(I)I"⟩
abbrev cX3_isTaken : ByteArray := prog_5_method_5_code
def yX3_isTaken : MethodName := ⟨RX3, "isTaken", "(II)Z"⟩
abbrev cX3_seatedOracles : ByteArray := prog_5_method_6_code
def yX3_seatedOracles : MethodName := ⟨RX3, "seatedOracles", "()I"⟩
abbrev cX3_ruinedOracles : ByteArray := prog_5_method_7_code
def yX3_ruinedOracles : MethodName := ⟨RX3, "ruinedOracles", "()I"⟩
abbrev cX3_allCoins : ByteArray := prog_5_method_8_code
def yX3_allCoins : MethodName := ⟨RX3, "allCoins", "()I"⟩
abbrev cX3_richerThan : ByteArray := prog_5_method_9_code
def yX3_richerThan : MethodName := ⟨RX3, "richerThan", "(I)I"⟩
abbrev cX3_addLoan : ByteArray := prog_5_method_10_code
def yX3_addLoan : MethodName := ⟨RX3, "addLoan", "(III)I"⟩
abbrev cX3_debtsOf : ByteArray := prog_5_method_11_code
def yX3_debtsOf : MethodName := ⟨RX3, "debtsOf", "(I)I"⟩
abbrev cX3_claimsOf : ByteArray := prog_5_method_12_code
def yX3_claimsOf : MethodName := ⟨RX3, "claimsOf", "(I)I"⟩
abbrev cX3_foretell : ByteArray := prog_5_method_14_code
def yX3_foretell : MethodName := ⟨RX3, "foretell", "(I)V"⟩
abbrev cX3_stakesOn : ByteArray := prog_5_method_15_code
def yX3_stakesOn : MethodName := ⟨RX3, "stakesOn", "(I)I"⟩
abbrev cX3_runBranch : ByteArray := prog_5_method_16_code
def yX3_runBranch : MethodName := ⟨RX3, "runBranch", "(II)I"⟩
abbrev cX3_settleBets : ByteArray := prog_5_method_17_code
def yX3_settleBets : MethodName := ⟨RX3, "settleBets", "(I)I"⟩
abbrev cX3_payCreditors : ByteArray := prog_5_method_18_code
def yX3_payCreditors : MethodName := ⟨RX3, "payCreditors", "(II)V"⟩
abbrev cX3_dropLoansPaidBack : ByteArray := prog_5_method_19_code
def yX3_dropLoansPaidBack : MethodName := ⟨RX3, "dropLoansPaidBack", "()V"⟩
abbrev cX3_keepRecords : ByteArray := prog_5_method_20_code
def yX3_keepRecords : MethodName := ⟨RX3, "keepRecords", "(I)V"⟩
abbrev cX3_learnFrom : ByteArray := prog_5_method_21_code
def yX3_learnFrom : MethodName := ⟨RX3, "learnFrom", "(II)V"⟩
def RX4 : String := "BranchBets$Text"
def TX4 : u_T := fun k => match k with
  | 0 => ("BranchBets$Text", "characters", "[C", true)
  | 1 => ("BranchBets$Text", "numbers", "[I", true)
  | 2 => ("BranchBets$Text", "length", "I", false)
  | 3 => ("BranchBets$Text", "start", "I", false)
  | 4 => ("BranchBets$Text", "end", "I", false)
  | 5 => ("BranchBets$Text", "word", "I", false)
  | 6 => ("BranchBets$Text", "reason", "I", false)
  | _ => ("BranchBets$Text", "cause", "I", false)
def tyX4 : Nat → FieldType := fun k => match k with
  | 0 => .array .char
  | 1 => .array .int
  | 2 => .int
  | 3 => .int
  | 4 => .int
  | 5 => .int
  | 6 => .int
  | _ => .int
abbrev wsX40 : List Cond := u_ws RX4 TX4 8
theorem nmX4 : ∀ a, a < 8 → ∀ b, b < 8 → a ≠ b → (TX4 a).2.1 ≠ (TX4 b).2.1 := by decide +kernel
theorem tyX4_ok : ∀ k, k < 8 → parseFieldDescriptor (TX4 k).2.2.1 = some (tyX4 k) := by decide +kernel
abbrev cX4_init : ByteArray := prog_6_method_1_code
def yX4_init : MethodName := ⟨RX4, "<init>", "()V"⟩
def RX5 : String := "BranchBets"
def TX5 : u_T := fun k => match k with
  | 0 => ("BranchBets", "now", "LBranchBets$State;", true)
  | 1 => ("BranchBets", "trial", "LBranchBets$State;", true)
  | 2 => ("BranchBets", "past", "LBranchBets$Past;", true)
  | _ => ("BranchBets", "text", "LBranchBets$Text;", true)
def tyX5 : Nat → FieldType := fun k => match k with
  | 0 => .object "BranchBets$State"
  | 1 => .object "BranchBets$State"
  | 2 => .object "BranchBets$Past"
  | _ => .object "BranchBets$Text"
abbrev wsX50 : List Cond := u_ws RX5 TX5 4
theorem nmX5 : ∀ a, a < 4 → ∀ b, b < 4 → a ≠ b → (TX5 a).2.1 ≠ (TX5 b).2.1 := by decide +kernel
theorem tyX5_ok : ∀ k, k < 4 → parseFieldDescriptor (TX5 k).2.2.1 = some (tyX5 k) := by decide +kernel
abbrev cX5_init : ByteArray := prog_1_method_1_code
def yX5_init : MethodName := ⟨RX5, "<init>", "()V"⟩
abbrev cX5_set : ByteArray := prog_1_method_2_code
def yX5_set : MethodName := ⟨RX5, "set", "(II)I"⟩
abbrev cX5_oracle : ByteArray := prog_1_method_3_code
def yX5_oracle : MethodName := ⟨RX5, "oracle", "(III)I"⟩
abbrev cX5_seat : ByteArray := prog_1_method_4_code
def yX5_seat : MethodName := ⟨RX5, "seat", "(II)I"⟩
abbrev cX5_stand : ByteArray := prog_1_method_5_code
def yX5_stand : MethodName := ⟨RX5, "stand", "(I)I"⟩
abbrev cX5_give : ByteArray := prog_1_method_6_code
def yX5_give : MethodName := ⟨RX5, "give", "(II)I"⟩
abbrev cX5_lend : ByteArray := prog_1_method_7_code
def yX5_lend : MethodName := ⟨RX5, "lend", "(III)I"⟩
abbrev cX5_branch : ByteArray := prog_1_method_8_code
def yX5_branch : MethodName := ⟨RX5, "branch", "(II)I"⟩
abbrev cX5_oracleOf : ByteArray := prog_1_method_9_code
def yX5_oracleOf : MethodName := ⟨RX5, "oracleOf", "(II)I"⟩
abbrev cX5_counter : ByteArray := prog_1_method_10_code
def yX5_counter : MethodName := ⟨RX5, "counter", "(II)I"⟩
abbrev cX5_loanOf : ByteArray := prog_1_method_11_code
def yX5_loanOf : MethodName := ⟨RX5, "loanOf", "(II)I"⟩
abbrev cX5_share : ByteArray := prog_1_method_13_code
def yX5_share : MethodName := ⟨RX5, "share", "(I)I"⟩
abbrev cX5_rich : ByteArray := prog_1_method_14_code
def yX5_rich : MethodName := ⟨RX5, "rich", "(I)I"⟩
abbrev cX5_says : ByteArray := prog_1_method_15_code
def yX5_says : MethodName := ⟨RX5, "says", "(II)I"⟩
abbrev cX5_stake : ByteArray := prog_1_method_16_code
def yX5_stake : MethodName := ⟨RX5, "stake", "(II)I"⟩
abbrev cX5_odds : ByteArray := prog_1_method_17_code
def yX5_odds : MethodName := ⟨RX5, "odds", "(I)I"⟩
abbrev cX5_gain : ByteArray := prog_1_method_18_code
def yX5_gain : MethodName := ⟨RX5, "gain", "(III)I"⟩
abbrev cX5_doom : ByteArray := prog_1_method_19_code
def yX5_doom : MethodName := ⟨RX5, "doom", "(III)I"⟩
abbrev cX5_bestRow : ByteArray := prog_1_method_20_code
def yX5_bestRow : MethodName := ⟨RX5, "bestRow", "(IIII)I"⟩
abbrev cX5_count : ByteArray := prog_1_method_21_code
def yX5_count : MethodName := ⟨RX5, "count", "(I)I"⟩
abbrev cX5_isWithin : ByteArray := prog_1_method_27_code
def yX5_isWithin : MethodName := ⟨RX5, "isWithin", "(III)Z"⟩
abbrev cX5_isAddress : ByteArray := prog_1_method_28_code
def yX5_isAddress : MethodName := ⟨RX5, "isAddress", "(I)Z"⟩
abbrev cX5_isOracle : ByteArray := prog_1_method_29_code
def yX5_isOracle : MethodName := ⟨RX5, "isOracle", "(I)Z"⟩
abbrev cX5_mostNumberOf : ByteArray := prog_1_method_30_code
def yX5_mostNumberOf : MethodName := ⟨RX5, "mostNumberOf", "(I)I"⟩
abbrev cX5_takes : ByteArray := prog_1_method_31_code
def yX5_takes : MethodName := ⟨RX5, "takes", "(ILBranchBets$Oracle;)Z"⟩
abbrev cX5_bitsOfQuotient : ByteArray := prog_1_method_32_code
def yX5_bitsOfQuotient : MethodName := ⟨RX5, "bitsOfQuotient", "(II)I"⟩
abbrev cX5_purseBehind : ByteArray := prog_1_method_33_code
def yX5_purseBehind : MethodName := ⟨RX5, "purseBehind", "(IIII)I"⟩
def RX6 : String := "BranchBetsModel"
def TX6 : u_T := fun k => match k with
  | _ => ("", "", "", false)
def tyX6 : Nat → FieldType := fun k => match k with
  | _ => .int
abbrev wsX60 : List Cond := u_ws RX6 TX6 0
theorem nmX6 : ∀ a, a < 0 → ∀ b, b < 0 → a ≠ b → (TX6 a).2.1 ≠ (TX6 b).2.1 := by decide +kernel
theorem tyX6_ok : ∀ k, k < 0 → parseFieldDescriptor (TX6 k).2.2.1 = some (tyX6 k) := by decide +kernel
def RJ9 : String := "java/lang/Math"
def TJ9 : u_T := fun k => match k with
  | _ => ("", "", "", false)
def tyJ9 : Nat → FieldType := fun k => match k with
  | _ => .int
abbrev wsJ90 : List Cond := u_ws RJ9 TJ9 0
theorem nmJ9 : ∀ a, a < 0 → ∀ b, b < 0 → a ≠ b → (TJ9 a).2.1 ≠ (TJ9 b).2.1 := by decide +kernel
theorem tyJ9_ok : ∀ k, k < 0 → parseFieldDescriptor (TJ9 k).2.2.1 = some (tyJ9 k) := by decide +kernel
abbrev cJ9_max_7cf53 : ByteArray := prog_9_method_65_code
def yJ9_max_7cf53 : MethodName := ⟨RJ9, "max", "(II)I"⟩
abbrev cJ9_min_7cf53 : ByteArray := prog_9_method_69_code
def yJ9_min_7cf53 : MethodName := ⟨RJ9, "min", "(II)I"⟩
def RJ10 : String := "java/lang/System"
def TJ10 : u_T := fun k => match k with
  | _ => ("", "", "", false)
def tyJ10 : Nat → FieldType := fun k => match k with
  | _ => .int
abbrev wsJ100 : List Cond := u_ws RJ10 TJ10 0
theorem nmJ10 : ∀ a, a < 0 → ∀ b, b < 0 → a ≠ b → (TJ10 a).2.1 ≠ (TJ10 b).2.1 := by decide +kernel
theorem tyJ10_ok : ∀ k, k < 0 → parseFieldDescriptor (TJ10 k).2.2.1 = some (tyJ10 k) := by decide +kernel
def RL : String := "BranchBetsLaw"
abbrev cL_cell : ByteArray := method_2_code
def yL_cell : MethodName := ⟨RL, "cell", "([II)I"⟩
abbrev cL_low : ByteArray := method_3_code
def yL_low : MethodName := ⟨RL, "low", "(II)I"⟩
abbrev cL_table : ByteArray := method_4_code
def yL_table : MethodName := ⟨RL, "table", "(I[I)Z"⟩
abbrev cL_index : ByteArray := method_5_code
def yL_index : MethodName := ⟨RL, "index", "(II[I[I)I"⟩
abbrev cL_in : ByteArray := method_6_code
def yL_in : MethodName := ⟨RL, "in", "(I[I)Z"⟩
abbrev cL_says : ByteArray := method_7_code
def yL_says : MethodName := ⟨RL, "says", "(II[I[I[I)I"⟩
abbrev cL_says4 : ByteArray := method_8_code
def yL_says4 : MethodName := ⟨RL, "says4", "(II[I[I[I)I"⟩
abbrev cL_stake : ByteArray := method_9_code
def yL_stake : MethodName := ⟨RL, "stake", "(II[I[I[I)I"⟩
abbrev cL_pays : ByteArray := method_10_code
def yL_pays : MethodName := ⟨RL, "pays", "(II[I[I[I)V"⟩
abbrev cL_branch : ByteArray := method_11_code
def yL_branch : MethodName := ⟨RL, "branch", "(II[I[I[I[I[I)I"⟩
abbrev cL_same : ByteArray := method_12_code
def yL_same : MethodName := ⟨RL, "same", "(LBranchBets;I[I[I[I[I)Z"⟩
abbrev cL_copy : ByteArray := method_13_code
def yL_copy : MethodName := ⟨RL, "copy", "([I[I)V"⟩
abbrev cL_would : ByteArray := method_14_code
def yL_would : MethodName := ⟨RL, "would", "(LBranchBets;III[I[I[I[I[I)Z"⟩
abbrev cL_law : ByteArray := code
def yL_law : MethodName := ⟨RL, "law", "([I)Z"⟩
abbrev vwCl : List vw_C := [(RX0, TX0, 3), (RX1, TX1, 12), (RX2, TX2, 3), (RX3, TX3, 10), (RX4, TX4, 8), (RX5, TX5, 4)]

/-- the words that a callee can take over -/
def lw_gd : List Cond := lw_tbl.filter goodWord
theorem lw_in {w : Cond} (i : Nat) (h : tables_1[i]? = some w) (hg : goodWord w = true) : w ∈ lw_gd := List.mem_filter.mpr ⟨List.mem_append_right _ (List.mem_of_getElem? h), hg⟩
theorem lw_sel {w : Cond} (i : Nat) (h : (k2_sels lw_privs)[i]? = some w) (hg : goodWord w = true) : w ∈ lw_gd := List.mem_filter.mpr ⟨List.mem_append_left _ (List.mem_of_getElem? h), hg⟩
set_option maxRecDepth 100000 in
theorem lw_x0 : ∀ w ∈ u_ws RX0 TX0 3, w ∈ lw_gd := by decide +kernel
set_option maxRecDepth 100000 in
theorem lw_x1 : ∀ w ∈ u_ws RX1 TX1 12, w ∈ lw_gd := by decide +kernel
set_option maxRecDepth 100000 in
theorem lw_x2 : ∀ w ∈ u_ws RX2 TX2 3, w ∈ lw_gd := by decide +kernel
set_option maxRecDepth 100000 in
theorem lw_x3 : ∀ w ∈ u_ws RX3 TX3 10, w ∈ lw_gd := by decide +kernel
set_option maxRecDepth 100000 in
theorem lw_x4 : ∀ w ∈ u_ws RX4 TX4 8, w ∈ lw_gd := by decide +kernel
set_option maxRecDepth 100000 in
theorem lw_x5 : ∀ w ∈ u_ws RX5 TX5 4, w ∈ lw_gd := by decide +kernel
