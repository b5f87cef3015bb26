section
/-! PART A of the skeleton, and the printed names: starting texts -/
-- ===== PART A: goes FIRST, ahead of the names: the tables' words, and 'selects' of the private methods out of them =====
/-- a private method of a class that the tables say can be made, by its rows of tables_1 -/
def lw_okq (q : MethodName × Nat) : Prop := (q.1.cls ≠ "java/lang/invoke/MethodHandle" ∧ q.1.cls ≠ "java/lang/invoke/VarHandle") ∧ Cond.instantiable q.1.cls q.2 ∈ tables_1 ∧ Cond.privateMethod q.1 ∈ tables_1 ∧ Cond.instanceMethod q.1 ∈ tables_1
theorem lw_p0 : lw_okq (⟨"BranchBets", "isOracle", "(I)Z"⟩, 4) := ⟨⟨by decide +kernel, by decide +kernel⟩, List.mem_of_getElem? (i := 10) (by decide +kernel), List.mem_of_getElem? (i := 258) (by decide +kernel), List.mem_of_getElem? (i := 259) (by decide +kernel)⟩
theorem lw_p1 : lw_okq (⟨"BranchBets", "purseBehind", "(IIII)I"⟩, 4) := ⟨⟨by decide +kernel, by decide +kernel⟩, List.mem_of_getElem? (i := 10) (by decide +kernel), List.mem_of_getElem? (i := 511) (by decide +kernel), List.mem_of_getElem? (i := 512) (by decide +kernel)⟩
def lw_privs_1 : List (MethodName × Nat) := [(⟨"BranchBets", "isOracle", "(I)Z"⟩, 4), (⟨"BranchBets", "purseBehind", "(IIII)I"⟩, 4)]
theorem lw_r1 : ∀ q ∈ lw_privs_1, lw_okq q := List.forall_mem_cons.mpr ⟨lw_p0, List.forall_mem_cons.mpr ⟨lw_p1, fun _ h => absurd h List.not_mem_nil⟩⟩
def lw_privs : List (MethodName × Nat) := lw_privs_1
def lw_tbl : List Cond := k2_sels lw_privs ++ tables_1
theorem lw_privs_ok : ∀ q ∈ lw_privs, lw_okq q := lw_r1
/-- the streams that the claim lets the run draw from -/
abbrev lw_cs : List Choice := [Jvm.Choice.named "NaN.bits"]
theorem lw_bits : nanBits ∈ lw_cs := by first | decide | exact List.mem_cons_self | simp [lw_cs, nanBits]
def RX0 : String := "BranchBets$Loan"
def TX0 : u_T := fun k => match k with
  | 0 => ("BranchBets$Loan", "creditor", "I", false)
  | 1 => ("BranchBets$Loan", "debtor", "I", false)
  | _ => ("BranchBets$Loan", "owed", "I", false)
def tyX0 : Nat → FieldType := fun k => match k with
  | 0 => .int
  | 1 => .int
  | _ => .int
abbrev wsX00 : List Cond := u_ws RX0 TX0 3
theorem nmX0 : ∀ a, a < 3 → ∀ b, b < 3 → a ≠ b → (TX0 a).2.1 ≠ (TX0 b).2.1 := by decide +kernel
theorem tyX0_ok : ∀ k, k < 3 → parseFieldDescriptor (TX0 k).2.2.1 = some (tyX0 k) := by decide +kernel
abbrev cX0_init : ByteArray := prog_2_method_1_code
def yX0_init : MethodName := ⟨RX0, "<init>", "()V"⟩
abbrev cX0_copyFrom : ByteArray := prog_2_method_2_code
def yX0_copyFrom : MethodName := ⟨RX0, "copyFrom", "(LBranchBets$Loan;)V"⟩
def RX1 : String := "BranchBets$Oracle"
def TX1 : u_T := fun k => match k with
  | 0 => ("BranchBets$Oracle", "kind", "I", false)
  | 1 => ("BranchBets$Oracle", "number", "I", false)
  | 2 => ("BranchBets$Oracle", "purse", "I", false)
  | 3 => ("BranchBets$Oracle", "booth", "I", false)
  | 4 => ("BranchBets$Oracle", "place", "I", false)
  | 5 => ("BranchBets$Oracle", "right", "I", false)
  | 6 => ("BranchBets$Oracle", "wrong", "I", false)
  | 7 => ("BranchBets$Oracle", "record", "I", false)
  | 8 => ("BranchBets$Oracle", "ruins", "I", false)
  | 9 => ("BranchBets$Oracle", "said", "I", false)
  | 10 => ("BranchBets$Oracle", "staked", "I", false)
  | _ => ("BranchBets$Oracle", "table", "[I", true)
def tyX1 : Nat → FieldType := fun k => match k with
  | 0 => .int
  | 1 => .int
  | 2 => .int
  | 3 => .int
  | 4 => .int
  | 5 => .int
  | 6 => .int
  | 7 => .int
  | 8 => .int
  | 9 => .int
  | 10 => .int
  | _ => .array .int
abbrev wsX10 : List Cond := u_ws RX1 TX1 12
theorem nmX1 : ∀ a, a < 12 → ∀ b, b < 12 → a ≠ b → (TX1 a).2.1 ≠ (TX1 b).2.1 := by decide +kernel
theorem tyX1_ok : ∀ k, k < 12 → parseFieldDescriptor (TX1 k).2.2.1 = some (tyX1 k) := by decide +kernel
abbrev cX1_init : ByteArray := prog_3_method_1_code
def yX1_init : MethodName := ⟨RX1, "<init>", "()V"⟩
abbrev cX1_begin : ByteArray := prog_3_method_2_code
def yX1_begin : MethodName := ⟨RX1, "begin", "(III)V"⟩
abbrev cX1_copyFrom : ByteArray := prog_3_method_3_code
def yX1_copyFrom : MethodName := ⟨RX1, "copyFrom", "(LBranchBets$Oracle;)V"⟩
abbrev cX1_hasSeat : ByteArray := prog_3_method_4_code
def yX1_hasSeat : MethodName := ⟨RX1, "hasSeat", "()Z"⟩
abbrev cX1_isRuined : ByteArray := prog_3_method_5_code
def yX1_isRuined : MethodName := ⟨RX1, "isRuined", "()Z"⟩
abbrev cX1_takesPart : ByteArray := prog_3_method_6_code
def yX1_takesPart : MethodName := ⟨RX1, "takesPart", "()Z"⟩
abbrev cX1_hasTable : ByteArray := prog_3_method_7_code
def yX1_hasTable : MethodName := ⟨RX1, "hasTable", "()Z"⟩
abbrev cX1_tableSize : ByteArray := prog_3_method_8_code
def yX1_tableSize : MethodName := ⟨RX1, "tableSize", "()I"⟩
abbrev cX1_slotOf : ByteArray := prog_3_method_9_code
def yX1_slotOf : MethodName := ⟨RX1, "slotOf", "(II)I"⟩
abbrev cX1_wordOfItsOwn : ByteArray := prog_3_method_10_code
def yX1_wordOfItsOwn : MethodName := ⟨RX1, "wordOfItsOwn", "(II)I"⟩
abbrev cX1_stakeNow : ByteArray := prog_3_method_11_code
def yX1_stakeNow : MethodName := ⟨RX1, "stakeNow", "(III)I"⟩
abbrev cX1_learn : ByteArray := prog_3_method_12_code
def yX1_learn : MethodName := ⟨RX1, "learn", "(III)V"⟩
abbrev cX1_note : ByteArray := prog_3_method_13_code
def yX1_note : MethodName := ⟨RX1, "note", "(Z)V"⟩
def RX2 : String := "BranchBets$Past"
def TX2 : u_T := fun k => match k with
  | 0 => ("BranchBets$Past", "states", "[LBranchBets$State;", true)
  | 1 => ("BranchBets$Past", "first", "I", false)
  | _ => ("BranchBets$Past", "size", "I", false)
def tyX2 : Nat → FieldType := fun k => match k with
  | 0 => .array (.object "BranchBets$State")
  | 1 => .int
  | _ => .int
abbrev wsX20 : List Cond := u_ws RX2 TX2 3
theorem nmX2 : ∀ a, a < 3 → ∀ b, b < 3 → a ≠ b → (TX2 a).2.1 ≠ (TX2 b).2.1 := by decide +kernel
theorem tyX2_ok : ∀ k, k < 3 → parseFieldDescriptor (TX2 k).2.2.1 = some (tyX2 k) := by decide +kernel
abbrev cX2_init : ByteArray := prog_4_method_1_code
def yX2_init : MethodName := ⟨RX2, "<init>", "()V"⟩
abbrev cX2_keep : ByteArray := prog_4_method_2_code
def yX2_keep : MethodName := ⟨RX2, "keep", "(LBranchBets$State;)V"⟩
def RX3 : String := "BranchBets$State"
def TX3 : u_T := fun k => match k with
  | 0 => ("BranchBets$State", "oracles", "[LBranchBets$Oracle;", true)
  | 1 => ("BranchBets$State", "loans", "[LBranchBets$Loan;", true)
  | 2 => ("BranchBets$State", "settings", "[I", true)
  | 3 => ("BranchBets$State", "oracleCount", "I", false)
  | 4 => ("BranchBets$State", "loanCount", "I", false)
  | 5 => ("BranchBets$State", "houseCoins", "I", false)
  | 6 => ("BranchBets$State", "history", "I", false)
  | 7 => ("BranchBets$State", "branches", "I", false)
  | 8 => ("BranchBets$State", "bets", "I", false)
  | _ => ("BranchBets$State", "seenAddresses", "J", false)
def tyX3 : Nat → FieldType := fun k => match k with
  | 0 => .array (.object "BranchBets$Oracle")
  | 1 => .array (.object "BranchBets$Loan")
  | 2 => .array .int
  | 3 => .int
  | 4 => .int
  | 5 => .int
  | 6 => .int
  | 7 => .int
  | 8 => .int
  | _ => .long
abbrev wsX30 : List Cond := u_ws RX3 TX3 10
theorem nmX3 : ∀ a, a < 10 → ∀ b, b < 10 → a ≠ b → (TX3 a).2.1 ≠ (TX3 b).2.1 := by decide +kernel
theorem tyX3_ok : ∀ k, k < 10 → parseFieldDescriptor (TX3 k).2.2.1 = some (tyX3 k) := by decide +kernel
abbrev cX3_init : ByteArray := prog_5_method_1_code
def yX3_init : MethodName := ⟨RX3, "<init>", "()V"⟩
abbrev cX3_copyFrom : ByteArray := prog_5_method_2_code
def yX3_copyFrom : MethodName := ⟨RX3, "copyFrom", "(LBranchBets$State;)V"⟩
abbrev cX3_sittersOf : ByteArray := prog_5_method_3_code
def yX3_sittersOf : MethodName := ⟨RX3, "sittersOf", "(I)I"⟩
abbrev cX3_lowestFreeSeat : ByteArray := prog_5_method_4_code
def yX3_lowestFreeSeat : MethodName := ⟨RX3, "lowestFreeSeat", "(I)I"⟩
abbrev cX3_isTaken : ByteArray := prog_5_method_5_code
def yX3_isTaken : MethodName := ⟨RX3, "isTaken", "(II)Z"⟩
abbrev cX3_seatedOracles : ByteArray := prog_5_method_6_code
def yX3_seatedOracles : MethodName := ⟨RX3, "seatedOracles", "()I"⟩
abbrev cX3_ruinedOracles : ByteArray := prog_5_method_7_code
def yX3_ruinedOracles : MethodName := ⟨RX3, "ruinedOracles", "()I"⟩
abbrev cX3_allCoins : ByteArray := prog_5_method_8_code
def yX3_allCoins : MethodName := ⟨RX3, "allCoins", "()I"⟩
abbrev cX3_richerThan : ByteArray := prog_5_method_9_code
def yX3_richerThan : MethodName := ⟨RX3, "richerThan", "(I)I"⟩
abbrev cX3_addLoan : ByteArray := prog_5_method_10_code
def yX3_addLoan : MethodName := ⟨RX3, "addLoan", "(III)I"⟩
abbrev cX3_debtsOf : ByteArray := prog_5_method_11_code
def yX3_debtsOf : MethodName := ⟨RX3, "debtsOf", "(I)I"⟩
abbrev cX3_claimsOf : ByteArray := prog_5_method_12_code
def yX3_claimsOf : MethodName := ⟨RX3, "claimsOf", "(I)I"⟩
abbrev cX3_foretell : ByteArray := prog_5_method_14_code
def yX3_foretell : MethodName := ⟨RX3, "foretell", "(I)V"⟩
abbrev cX3_stakesOn : ByteArray := prog_5_method_15_code
def yX3_stakesOn : MethodName := ⟨RX3, "stakesOn", "(I)I"⟩
abbrev cX3_runBranch : ByteArray := prog_5_method_16_code
def yX3_runBranch : MethodName := ⟨RX3, "runBranch", "(II)I"⟩
abbrev cX3_settleBets : ByteArray := prog_5_method_17_code
def yX3_settleBets : MethodName := ⟨RX3, "settleBets", "(I)I"⟩
abbrev cX3_payCreditors : ByteArray := prog_5_method_18_code
def yX3_payCreditors : MethodName := ⟨RX3, "payCreditors", "(II)V"⟩
abbrev cX3_dropLoansPaidBack : ByteArray := prog_5_method_19_code
def yX3_dropLoansPaidBack : MethodName := ⟨RX3, "dropLoansPaidBack", "()V"⟩
abbrev cX3_keepRecords : ByteArray := prog_5_method_20_code
def yX3_keepRecords : MethodName := ⟨RX3, "keepRecords", "(I)V"⟩
abbrev cX3_learnFrom : ByteArray := prog_5_method_21_code
def yX3_learnFrom : MethodName := ⟨RX3, "learnFrom", "(II)V"⟩
def RX4 : String := "BranchBets$Text"
def TX4 : u_T := fun k => match k with
  | 0 => ("BranchBets$Text", "characters", "[C", true)
  | 1 => ("BranchBets$Text", "numbers", "[I", true)
  | 2 => ("BranchBets$Text", "length", "I", false)
  | 3 => ("BranchBets$Text", "start", "I", false)
  | 4 => ("BranchBets$Text", "end", "I", false)
  | 5 => ("BranchBets$Text", "word", "I", false)
  | 6 => ("BranchBets$Text", "reason", "I", false)
  | _ => ("BranchBets$Text", "cause", "I", false)
def tyX4 : Nat → FieldType := fun k => match k with
  | 0 => .array .char
  | 1 => .array .int
  | 2 => .int
  | 3 => .int
  | 4 => .int
  | 5 => .int
  | 6 => .int
  | _ => .int
abbrev wsX40 : List Cond := u_ws RX4 TX4 8
theorem nmX4 : ∀ a, a < 8 → ∀ b, b < 8 → a ≠ b → (TX4 a).2.1 ≠ (TX4 b).2.1 := by decide +kernel
theorem tyX4_ok : ∀ k, k < 8 → parseFieldDescriptor (TX4 k).2.2.1 = some (tyX4 k) := by decide +kernel
abbrev cX4_init : ByteArray := prog_6_method_1_code
def yX4_init : MethodName := ⟨RX4, "<init>", "()V"⟩
def RX5 : String := "BranchBets"
def TX5 : u_T := fun k => match k with
  | 0 => ("BranchBets", "now", "LBranchBets$State;", true)
  | 1 => ("BranchBets", "trial", "LBranchBets$State;", true)
  | 2 => ("BranchBets", "past", "LBranchBets$Past;", true)
  | _ => ("BranchBets", "text", "LBranchBets$Text;", true)
def tyX5 : Nat → FieldType := fun k => match k with
  | 0 => .object "BranchBets$State"
  | 1 => .object "BranchBets$State"
  | 2 => .object "BranchBets$Past"
  | _ => .object "BranchBets$Text"
abbrev wsX50 : List Cond := u_ws RX5 TX5 4
theorem nmX5 : ∀ a, a < 4 → ∀ b, b < 4 → a ≠ b → (TX5 a).2.1 ≠ (TX5 b).2.1 := by decide +kernel
theorem tyX5_ok : ∀ k, k < 4 → parseFieldDescriptor (TX5 k).2.2.1 = some (tyX5 k) := by decide +kernel
abbrev cX5_init : ByteArray := prog_1_method_1_code
def yX5_init : MethodName := ⟨RX5, "<init>", "()V"⟩
abbrev cX5_set : ByteArray := prog_1_method_2_code
def yX5_set : MethodName := ⟨RX5, "set", "(II)I"⟩
abbrev cX5_oracle : ByteArray := prog_1_method_3_code
def yX5_oracle : MethodName := ⟨RX5, "oracle", "(III)I"⟩
abbrev cX5_seat : ByteArray := prog_1_method_4_code
def yX5_seat : MethodName := ⟨RX5, "seat", "(II)I"⟩
abbrev cX5_stand : ByteArray := prog_1_method_5_code
def yX5_stand : MethodName := ⟨RX5, "stand", "(I)I"⟩
abbrev cX5_give : ByteArray := prog_1_method_6_code
def yX5_give : MethodName := ⟨RX5, "give", "(II)I"⟩
abbrev cX5_lend : ByteArray := prog_1_method_7_code
def yX5_lend : MethodName := ⟨RX5, "lend", "(III)I"⟩
abbrev cX5_branch : ByteArray := prog_1_method_8_code
def yX5_branch : MethodName := ⟨RX5, "branch", "(II)I"⟩
abbrev cX5_oracleOf : ByteArray := prog_1_method_9_code
def yX5_oracleOf : MethodName := ⟨RX5, "oracleOf", "(II)I"⟩
abbrev cX5_counter : ByteArray := prog_1_method_10_code
def yX5_counter : MethodName := ⟨RX5, "counter", "(II)I"⟩
abbrev cX5_loanOf : ByteArray := prog_1_method_11_code
def yX5_loanOf : MethodName := ⟨RX5, "loanOf", "(II)I"⟩
abbrev cX5_share : ByteArray := prog_1_method_13_code
def yX5_share : MethodName := ⟨RX5, "share", "(I)I"⟩
abbrev cX5_rich : ByteArray := prog_1_method_14_code
def yX5_rich : MethodName := ⟨RX5, "rich", "(I)I"⟩
abbrev cX5_says : ByteArray := prog_1_method_15_code
def yX5_says : MethodName := ⟨RX5, "says", "(II)I"⟩
abbrev cX5_stake : ByteArray := prog_1_method_16_code
def yX5_stake : MethodName := ⟨RX5, "stake", "(II)I"⟩
abbrev cX5_odds : ByteArray := prog_1_method_17_code
def yX5_odds : MethodName := ⟨RX5, "odds", "(I)I"⟩
abbrev cX5_gain : ByteArray := prog_1_method_18_code
def yX5_gain : MethodName := ⟨RX5, "gain", "(III)I"⟩
abbrev cX5_doom : ByteArray := prog_1_method_19_code
def yX5_doom : MethodName := ⟨RX5, "doom", "(III)I"⟩
abbrev cX5_bestRow : ByteArray := prog_1_method_20_code
def yX5_bestRow : MethodName := ⟨RX5, "bestRow", "(IIII)I"⟩
abbrev cX5_count : ByteArray := prog_1_method_21_code
def yX5_count : MethodName := ⟨RX5, "count", "(I)I"⟩
abbrev cX5_isWithin : ByteArray := prog_1_method_27_code
def yX5_isWithin : MethodName := ⟨RX5, "isWithin", "(III)Z"⟩
abbrev cX5_isAddress : ByteArray := prog_1_method_28_code
def yX5_isAddress : MethodName := ⟨RX5, "isAddress", "(I)Z"⟩
abbrev cX5_isOracle : ByteArray := prog_1_method_29_code
def yX5_isOracle : MethodName := ⟨RX5, "isOracle", "(I)Z"⟩
abbrev cX5_mostNumberOf : ByteArray := prog_1_method_30_code
def yX5_mostNumberOf : MethodName := ⟨RX5, "mostNumberOf", "(I)I"⟩
abbrev cX5_takes : ByteArray := prog_1_method_31_code
def yX5_takes : MethodName := ⟨RX5, "takes", "(ILBranchBets$Oracle;)Z"⟩
abbrev cX5_bitsOfQuotient : ByteArray := prog_1_method_32_code
def yX5_bitsOfQuotient : MethodName := ⟨RX5, "bitsOfQuotient", "(II)I"⟩
abbrev cX5_purseBehind : ByteArray := prog_1_method_33_code
def yX5_purseBehind : MethodName := ⟨RX5, "purseBehind", "(IIII)I"⟩
def RX6 : String := "BranchBetsModel"
def TX6 : u_T := fun k => match k with
  | _ => ("", "", "", false)
def tyX6 : Nat → FieldType := fun k => match k with
  | _ => .int
abbrev wsX60 : List Cond := u_ws RX6 TX6 0
theorem nmX6 : ∀ a, a < 0 → ∀ b, b < 0 → a ≠ b → (TX6 a).2.1 ≠ (TX6 b).2.1 := by decide +kernel
theorem tyX6_ok : ∀ k, k < 0 → parseFieldDescriptor (TX6 k).2.2.1 = some (tyX6 k) := by decide +kernel
def RJ9 : String := "java/lang/Math"
def TJ9 : u_T := fun k => match k with
  | _ => ("", "", "", false)
def tyJ9 : Nat → FieldType := fun k => match k with
  | _ => .int
abbrev wsJ90 : List Cond := u_ws RJ9 TJ9 0
theorem nmJ9 : ∀ a, a < 0 → ∀ b, b < 0 → a ≠ b → (TJ9 a).2.1 ≠ (TJ9 b).2.1 := by decide +kernel
theorem tyJ9_ok : ∀ k, k < 0 → parseFieldDescriptor (TJ9 k).2.2.1 = some (tyJ9 k) := by decide +kernel
abbrev cJ9_max_7cf53 : ByteArray := prog_9_method_65_code
def yJ9_max_7cf53 : MethodName := ⟨RJ9, "max", "(II)I"⟩
abbrev cJ9_min_7cf53 : ByteArray := prog_9_method_69_code
def yJ9_min_7cf53 : MethodName := ⟨RJ9, "min", "(II)I"⟩
def RJ10 : String := "java/lang/System"
def TJ10 : u_T := fun k => match k with
  | _ => ("", "", "", false)
def tyJ10 : Nat → FieldType := fun k => match k with
  | _ => .int
abbrev wsJ100 : List Cond := u_ws RJ10 TJ10 0
theorem nmJ10 : ∀ a, a < 0 → ∀ b, b < 0 → a ≠ b → (TJ10 a).2.1 ≠ (TJ10 b).2.1 := by decide +kernel
theorem tyJ10_ok : ∀ k, k < 0 → parseFieldDescriptor (TJ10 k).2.2.1 = some (tyJ10 k) := by decide +kernel
def RL : String := "BranchBetsLaw"
abbrev cL_cell : ByteArray := method_2_code
def yL_cell : MethodName := ⟨RL, "cell", "([II)I"⟩
abbrev cL_low : ByteArray := method_3_code
def yL_low : MethodName := ⟨RL, "low", "(II)I"⟩
abbrev cL_table : ByteArray := method_4_code
def yL_table : MethodName := ⟨RL, "table", "(I[I)Z"⟩
abbrev cL_index : ByteArray := method_5_code
def yL_index : MethodName := ⟨RL, "index", "(II[I[I)I"⟩
abbrev cL_in : ByteArray := method_6_code
def yL_in : MethodName := ⟨RL, "in", "(I[I)Z"⟩
abbrev cL_says : ByteArray := method_7_code
def yL_says : MethodName := ⟨RL, "says", "(II[I[I[I)I"⟩
abbrev cL_says4 : ByteArray := method_8_code
def yL_says4 : MethodName := ⟨RL, "says4", "(II[I[I[I)I"⟩
abbrev cL_stake : ByteArray := method_9_code
def yL_stake : MethodName := ⟨RL, "stake", "(II[I[I[I)I"⟩
abbrev cL_pays : ByteArray := method_10_code
def yL_pays : MethodName := ⟨RL, "pays", "(II[I[I[I)V"⟩
abbrev cL_branch : ByteArray := method_11_code
def yL_branch : MethodName := ⟨RL, "branch", "(II[I[I[I[I[I)I"⟩
abbrev cL_same : ByteArray := method_12_code
def yL_same : MethodName := ⟨RL, "same", "(LBranchBets;I[I[I[I[I)Z"⟩
abbrev cL_copy : ByteArray := method_13_code
def yL_copy : MethodName := ⟨RL, "copy", "([I[I)V"⟩
abbrev cL_would : ByteArray := method_14_code
def yL_would : MethodName := ⟨RL, "would", "(LBranchBets;III[I[I[I[I[I)Z"⟩
abbrev cL_law : ByteArray := code
def yL_law : MethodName := ⟨RL, "law", "([I)Z"⟩
abbrev vwCl : List vw_C := [(RX0, TX0, 3), (RX1, TX1, 12), (RX2, TX2, 3), (RX3, TX3, 10), (RX4, TX4, 8), (RX5, TX5, 4)]

/-- the words that a callee can take over -/
def lw_gd : List Cond := lw_tbl.filter goodWord
theorem lw_in {w : Cond} (i : Nat) (h : tables_1[i]? = some w) (hg : goodWord w = true) : w ∈ lw_gd := List.mem_filter.mpr ⟨List.mem_append_right _ (List.mem_of_getElem? h), hg⟩
theorem lw_sel {w : Cond} (i : Nat) (h : (k2_sels lw_privs)[i]? = some w) (hg : goodWord w = true) : w ∈ lw_gd := List.mem_filter.mpr ⟨List.mem_append_left _ (List.mem_of_getElem? h), hg⟩
set_option maxRecDepth 100000 in
theorem lw_x0 : ∀ w ∈ u_ws RX0 TX0 3, w ∈ lw_gd := by decide +kernel
set_option maxRecDepth 100000 in
theorem lw_x1 : ∀ w ∈ u_ws RX1 TX1 12, w ∈ lw_gd := by decide +kernel
set_option maxRecDepth 100000 in
theorem lw_x2 : ∀ w ∈ u_ws RX2 TX2 3, w ∈ lw_gd := by decide +kernel
set_option maxRecDepth 100000 in
theorem lw_x3 : ∀ w ∈ u_ws RX3 TX3 10, w ∈ lw_gd := by decide +kernel
set_option maxRecDepth 100000 in
theorem lw_x4 : ∀ w ∈ u_ws RX4 TX4 8, w ∈ lw_gd := by decide +kernel
set_option maxRecDepth 100000 in
theorem lw_x5 : ∀ w ∈ u_ws RX5 TX5 4, w ∈ lw_gd := by decide +kernel
end
section
/-! the flat memory of both systems, the judgement G, its rules -/
/-- what the ints of a cell are (cell's number, slot), and the long of a cell -/
abbrev fM : Type := (Nat → Nat → Int32) × (Nat → Int64)
/-- where things are: classes' ids and slots, the cells' addresses, the array classes' ids, the addresses of statics -/
abbrev fX : Type := va_G × (Nat → Nat) × (Nat → ClassId) × (Nat → Nat) × Nat
/-- how many cells there are: the system's 150, the law's five rows, and those that are made for a while -/
def nX (X : fX) : Nat := 155 + X.2.2.2.2
theorem nX_lt {X : fX} {k : Nat} (h : k < 155) : k < nX X := Nat.lt_of_lt_of_le h (Nat.le_add_right _ _)
def iS (s : Nat) : Nat := 6 + 24 * s
def iOs (s : Nat) : Nat := 7 + 24 * s
def iLs (s : Nat) : Nat := 8 + 24 * s
def iSet (s : Nat) : Nat := 9 + 24 * s
def iO (s i : Nat) : Nat := 10 + 24 * s + 2 * i
def iT (s i : Nat) : Nat := 11 + 24 * s + 2 * i
def iL (s l : Nat) : Nat := 22 + 24 * s + l
abbrev ra (X : fX) (k : Nat) : Value := .ref (X.2.1 k)
def encS (X : fX) (s r : Nat) (row : Nat → Int32) (e : Int64) : va_E :=
  if r = 0 then .inr (3, [ra X (iOs s), ra X (iLs s), ra X (iSet s), .int (row 3), .int (row 4), .int (row 5), .int (row 6), .int (row 7), .int (row 8), .long e])
  else if r = 1 then .inl (X.2.2.1 2, 6, .inr (.inr (.inr (.inr (fun j => some (X.2.1 (iO s j)))))))
  else if r = 2 then .inl (X.2.2.1 3, 8, .inr (.inr (.inr (.inr (fun j => some (X.2.1 (iL s j)))))))
  else if r = 3 then .inl (X.2.2.1 0, 3, .inl row)
  else if r < 16 then
    (if r % 2 = 0 then .inr (1, [.int (row 0), .int (row 1), .int (row 2), .int (row 3), .int (row 4), .int (row 5), .int (row 6), .int (row 7), .int (row 8), .int (row 9), .int (row 10), ra X (6 + 24 * s + r + 1)])
     else .inl (X.2.2.1 0, 32, .inl row))
  else .inr (0, [.int (row 0), .int (row 1), .int (row 2)])
def mlen (k : Nat) : Nat := if k = 150 then 8 else if k = 151 then 50 else if k = 152 then 40 else if k = 153 then 24 else if k = 154 then 15 else if k = 155 then 8 else if k = 156 then 50 else if k = 157 then 40 else 24
def enc (X : fX) (k : Nat) (row : Nat → Int32) (e : Int64) : va_E :=
  if k = 0 then .inr (5, [ra X (iS 0), ra X (iS 1), ra X 1, ra X 3])
  else if k = 1 then .inr (2, [ra X 2, .int (row 1), .int (row 2)])
  else if k = 2 then .inl (X.2.2.1 4, 4, .inr (.inr (.inr (.inr (fun j => some (X.2.1 (iS (2 + j))))))))
  else if k = 3 then .inr (4, [ra X 4, ra X 5, .int (row 2), .int (row 3), .int (row 4), .int (row 5), .int (row 6), .int (row 7)])
  else if k = 4 then .inl (X.2.2.1 1, 80, .inl row)
  else if k = 5 then .inl (X.2.2.1 0, 2, .inl row)
  else if k < 150 then encS X ((k - 6) / 24) ((k - 6) % 24) row e
  else .inl (X.2.2.1 0, mlen k, .inl row)
theorem enc_S (X : fX) {s : Nat} (hs : s < 6) (row : Nat → Int32) (e : Int64) : enc X (iS s) row e = .inr (3, [ra X (iOs s), ra X (iLs s), ra X (iSet s), .int (row 3), .int (row 4), .int (row 5), .int (row 6), .int (row 7), .int (row 8), .long e]) := by
  unfold enc iS
  rw [if_neg (by omega), if_neg (by omega), if_neg (by omega), if_neg (by omega), if_neg (by omega), if_neg (by omega), if_pos (by omega), show (6 + 24 * s - 6) / 24 = s by omega, show (6 + 24 * s - 6) % 24 = 0 by omega]
  unfold encS
  rw [if_pos rfl]
theorem enc_Os (X : fX) {s : Nat} (hs : s < 6) (row : Nat → Int32) (e : Int64) : enc X (iOs s) row e = .inl (X.2.2.1 2, 6, .inr (.inr (.inr (.inr (fun j => some (X.2.1 (iO s j))))))) := by
  unfold enc iOs
  rw [if_neg (by omega), if_neg (by omega), if_neg (by omega), if_neg (by omega), if_neg (by omega), if_neg (by omega), if_pos (by omega), show (7 + 24 * s - 6) / 24 = s by omega, show (7 + 24 * s - 6) % 24 = 1 by omega]
  unfold encS
  rw [if_neg (by omega), if_pos rfl]
theorem enc_Ls (X : fX) {s : Nat} (hs : s < 6) (row : Nat → Int32) (e : Int64) : enc X (iLs s) row e = .inl (X.2.2.1 3, 8, .inr (.inr (.inr (.inr (fun j => some (X.2.1 (iL s j))))))) := by
  unfold enc iLs
  rw [if_neg (by omega), if_neg (by omega), if_neg (by omega), if_neg (by omega), if_neg (by omega), if_neg (by omega), if_pos (by omega), show (8 + 24 * s - 6) / 24 = s by omega, show (8 + 24 * s - 6) % 24 = 2 by omega]
  unfold encS
  rw [if_neg (by omega), if_neg (by omega), if_pos rfl]
theorem enc_Set (X : fX) {s : Nat} (hs : s < 6) (row : Nat → Int32) (e : Int64) : enc X (iSet s) row e = .inl (X.2.2.1 0, 3, .inl row) := by
  unfold enc iSet
  rw [if_neg (by omega), if_neg (by omega), if_neg (by omega), if_neg (by omega), if_neg (by omega), if_neg (by omega), if_pos (by omega), show (9 + 24 * s - 6) / 24 = s by omega, show (9 + 24 * s - 6) % 24 = 3 by omega]
  unfold encS
  rw [if_neg (by omega), if_neg (by omega), if_neg (by omega), if_pos rfl]
theorem enc_O (X : fX) {s i : Nat} (hs : s < 6) (hi : i < 6) (row : Nat → Int32) (e : Int64) : enc X (iO s i) row e = .inr (1, [.int (row 0), .int (row 1), .int (row 2), .int (row 3), .int (row 4), .int (row 5), .int (row 6), .int (row 7), .int (row 8), .int (row 9), .int (row 10), ra X (iT s i)]) := by
  unfold enc iO iT
  rw [if_neg (by omega), if_neg (by omega), if_neg (by omega), if_neg (by omega), if_neg (by omega), if_neg (by omega), if_pos (by omega), show (10 + 24 * s + 2 * i - 6) / 24 = s by omega, show (10 + 24 * s + 2 * i - 6) % 24 = 4 + 2 * i by omega]
  unfold encS
  rw [if_neg (by omega), if_neg (by omega), if_neg (by omega), if_neg (by omega), if_pos (by omega), if_pos (by omega), show 6 + 24 * s + (4 + 2 * i) + 1 = 11 + 24 * s + 2 * i by omega]
theorem enc_T (X : fX) {s i : Nat} (hs : s < 6) (hi : i < 6) (row : Nat → Int32) (e : Int64) : enc X (iT s i) row e = .inl (X.2.2.1 0, 32, .inl row) := by
  unfold enc iT
  rw [if_neg (by omega), if_neg (by omega), if_neg (by omega), if_neg (by omega), if_neg (by omega), if_neg (by omega), if_pos (by omega), show (11 + 24 * s + 2 * i - 6) / 24 = s by omega, show (11 + 24 * s + 2 * i - 6) % 24 = 5 + 2 * i by omega]
  unfold encS
  rw [if_neg (by omega), if_neg (by omega), if_neg (by omega), if_neg (by omega), if_pos (by omega), if_neg (by omega)]
theorem enc_L (X : fX) {s i : Nat} (hs : s < 6) (hi : i < 8) (row : Nat → Int32) (e : Int64) : enc X (iL s i) row e = .inr (0, [.int (row 0), .int (row 1), .int (row 2)]) := by
  unfold enc iL
  rw [if_neg (by omega), if_neg (by omega), if_neg (by omega), if_neg (by omega), if_neg (by omega), if_neg (by omega), if_pos (by omega), show (22 + 24 * s + i - 6) / 24 = s by omega, show (22 + 24 * s + i - 6) % 24 = 16 + i by omega]
  unfold encS
  rw [if_neg (by omega), if_neg (by omega), if_neg (by omega), if_neg (by omega), if_neg (by omega)]
theorem iS_lt {X : fX} {s : Nat} (hs : s < 6) : iS s < nX X := nX_lt (by unfold iS; omega)
theorem iOs_lt {X : fX} {s : Nat} (hs : s < 6) : iOs s < nX X := nX_lt (by unfold iOs; omega)
theorem iLs_lt {X : fX} {s : Nat} (hs : s < 6) : iLs s < nX X := nX_lt (by unfold iLs; omega)
theorem iSet_lt {X : fX} {s : Nat} (hs : s < 6) : iSet s < nX X := nX_lt (by unfold iSet; omega)
theorem iO_lt {X : fX} {s i : Nat} (hs : s < 6) (hi : i < 6) : iO s i < nX X := nX_lt (by unfold iO; omega)
theorem iT_lt {X : fX} {s i : Nat} (hs : s < 6) (hi : i < 6) : iT s i < nX X := nX_lt (by unfold iT; omega)
theorem iL_lt {X : fX} {s i : Nat} (hs : s < 6) (hi : i < 8) : iL s i < nX X := nX_lt (by unfold iL; omega)
/-- the world: a list of all cells -/
def wl (X : fX) (σ : fM) : va_W := (List.range (nX X)).map (fun k => (X.2.1 k, enc X k (σ.1 k) (σ.2 k)))
theorem wl_get {X : fX} {σ : fM} {k : Nat} (hk : k < nX X) : (wl X σ)[k]? = some (X.2.1 k, enc X k (σ.1 k) (σ.2 k)) := by
  simp [wl, hk]
theorem wl_set {X : fX} {σ σ' : fM} {k : Nat} {v : va_E} (hv : enc X k (σ'.1 k) (σ'.2 k) = v) (h1 : ∀ k', k' ≠ k → σ'.1 k' = σ.1 k') (h2 : ∀ k', k' ≠ k → σ'.2 k' = σ.2 k') : (wl X σ).set k (X.2.1 k, v) = wl X σ' := by
  apply List.ext_getElem?
  intro q
  by_cases hq : q = k
  · subst hq
    by_cases hl : q < nX X
    · rw [List.getElem?_set_self (by simp [wl]; exact hl), wl_get hl, hv]
    · rw [List.getElem?_eq_none (by simp [wl]; omega), List.getElem?_eq_none (by simp [wl]; omega)]
  · rw [List.getElem?_set_ne (fun h => hq h.symm)]
    by_cases hl : q < nX X
    · rw [wl_get hl, wl_get hl, h1 q hq, h2 q hq]
    · rw [List.getElem?_eq_none (by simp [wl]; omega), List.getElem?_eq_none (by simp [wl]; omega)]
/-- one int is put -/
def pu (σ : fM) (k j : Nat) (v : Int32) : fM := (fun k' j' => if k' = k ∧ j' = j then v else σ.1 k' j', σ.2)
/-- one long is put -/
def puL (σ : fM) (k : Nat) (v : Int64) : fM := (σ.1, fun k' => if k' = k then v else σ.2 k')
theorem pu_row (σ : fM) (k j : Nat) (v : Int32) : (pu σ k j v).1 k = fun j' => if j' = j then v else σ.1 k j' := by funext j'; simp [pu]
theorem pu_ne {σ : fM} {k j : Nat} {v : Int32} (k' : Nat) (h : k' ≠ k) : (pu σ k j v).1 k' = σ.1 k' := by funext j'; simp [pu, h]
/-- locals -/
def lk : List (Nat × Value) → Nat → Option Value
  | [], _ => none
  | q :: t, i => match Nat.beq q.1 i with
    | true => some q.2
    | false => lk t i
theorem lk_mem : ∀ (L : List (Nat × Value)) (i : Nat) (v : Value), lk L i = some v → (i, v) ∈ L
  | [], _, _, h => by cases h
  | q :: t, i, v, h => by
    unfold lk at h
    cases hb : Nat.beq q.1 i with
    | true =>
      rw [hb] at h
      have h1 := Nat.eq_of_beq_eq_true hb
      have h2 : q.2 = v := Option.some.inj h
      rw [← h1, ← h2]
      exact List.mem_cons_self
    | false =>
      rw [hb] at h
      exact List.mem_cons_of_mem _ (lk_mem t i v h)
theorem lk_has {ls : Array Slot} {nL : Nat} {L : List (Nat × Value)} (h : lv_has ls nL L) {i : Nat} {v : Value} (hk : lk L i = some v) : ls[i]? = some (.val v) := h.2.2 (i, v) (lk_mem L i v hk)
def ls1 (L : List (Nat × Value)) (i : Nat) (v : Value) : List (Nat × Value) := (i, v) :: L.filter (fun q => !(q.1 == i) && !(q.1 + 1 == i && q.2.category == 2))
def ls2 (L : List (Nat × Value)) (i : Nat) (v : Value) : List (Nat × Value) := (i, v) :: L.filter (fun q => !(q.1 == i) && (!(q.1 == i + 1) && !(q.1 + 1 == i && q.2.category == 2)))
def lsub (L : List (Nat × Value)) : List (Nat × Value) → Prop
  | [] => True
  | q :: t => lk L q.1 = some q.2 ∧ lsub L t
theorem lsub_has {ls : Array Slot} {nL : Nat} {L : List (Nat × Value)} (h : lv_has ls nL L) : ∀ (L' : List (Nat × Value)), lsub L L' → lv_has ls nL L'
  | [], _ => ⟨h.1, h.2.1, fun q hq => by cases hq⟩
  | q :: t, hs => by
    refine ⟨h.1, h.2.1, fun x hx => ?_⟩
    rcases List.mem_cons.mp hx with rfl | hx
    · exact lk_has h hs.1
    · exact (lsub_has h t hs.2).2.2 x hx
/-- array classes -/
def fty (X : fX) : List (ClassId × FieldType) := [(X.2.2.1 0, .int), (X.2.2.1 1, .char), (X.2.2.1 2, .object RX1), (X.2.2.1 3, .object RX0), (X.2.2.1 4, .object RX3)]
/-- the system's own cells -/
def fA (X : fX) : Addr → Prop := fun q => ∃ k, k < nX X ∧ q = X.2.1 k
def fAd (X : fX) (A : Addr → Prop) : Prop := (∀ i j, i < nX X → j < nX X → X.2.1 i = X.2.1 j → i = j) ∧ ∀ k, k < nX X → A (X.2.1 k)
theorem wl_len (X : fX) (σ : fM) : (wl X σ).length = nX X := by simp [wl]
theorem wl_inv {X : fX} {σ : fM} {k : Nat} {q : Nat × va_E} (h : (wl X σ)[k]? = some q) : k < nX X ∧ q = (X.2.1 k, enc X k (σ.1 k) (σ.2 k)) := by
  have hk : k < nX X := by
    rcases Nat.lt_or_ge k (nX X) with h1 | h1
    · exact h1
    · rw [List.getElem?_eq_none (by rw [wl_len]; exact h1)] at h; cases h
  rw [wl_get hk] at h
  exact ⟨hk, (Option.some.inj h).symm⟩
theorem wl_D {X : fX} {A : Addr → Prop} (h : fAd X A) (σ : fM) : va_D A (wl X σ) := by
  refine ⟨fun i j p q hi hj e => ?_, fun k q hk => ?_⟩
  · obtain ⟨h1, rfl⟩ := wl_inv hi
    obtain ⟨h2, rfl⟩ := wl_inv hj
    exact h.1 i j h1 h2 e
  · obtain ⟨h1, rfl⟩ := wl_inv hk
    exact h.2 k h1
/-- what stands beside the cells: static arrays -/
def fZ (X : fX) (A : Addr → Prop) (U : State) (H : Heap) : Prop :=
  (va_Z "BranchBets" "SETTING_LEAST" "[I" (.ref (X.2.2.2.1 0)) A U H ∧ va_T .int (X.2.2.2.1 0) 3 (fun j => .int (if j = 0 then 1 else 0)) A U H) ∧
  (va_Z "BranchBets" "SETTING_MOST" "[I" (.ref (X.2.2.2.1 1)) A U H ∧ va_T .int (X.2.2.2.1 1) 3 (fun j => .int (if j = 2 then 100 else 50)) A U H)
theorem fZ.kept {X : fX} {A : Addr → Prop} {U : State} {H H1 : Heap} (h : fZ X A U H) (hq : ∀ a : Nat, a < H.size → ¬ A a → H1[a]? = H[a]?) : fZ X A U H1 :=
  ⟨⟨h.1.1.kept hq, h.1.2.kept hq⟩, ⟨h.2.1.kept hq, h.2.2.kept hq⟩⟩
theorem fZ.moved {X : fX} {A : Addr → Prop} {u U : State} {H : Heap} (hvm : u.vm.Alike U.vm) (h : fZ X A u H) : fZ X A U H :=
  ⟨⟨h.1.1.moved hvm, h.1.2.moved hvm⟩, ⟨h.2.1.moved hvm, h.2.2.moved hvm⟩⟩
theorem fZ.narrow {X : fX} {A B : Addr → Prop} {U : State} {H : Heap} (h : fZ X A U H) (hAB : ∀ q, B q → A q) : fZ X B U H :=
  ⟨⟨h.1.1.narrow hAB, h.1.2.narrow hAB⟩, ⟨h.2.1.narrow hAB, h.2.2.narrow hAB⟩⟩
/-- a method's start: the arguments, the world, and what stands beside it -/
def fI (X : fX) (σ : fM) (U : State) : Prop := va_P X.1 vwCl (wl X σ) U.heap ∧ va_K X.1 vwCl (fty X) U ∧ fAd X (fA X) ∧ fZ X (fA X) U U.heap
def fPc (X : fX) (av : List Value) (σ : fM) : Array Value → State → Prop := fun v U => v = av.toArray ∧ fI X σ U
theorem fPc_blind (X : fX) (av : List Value) (σ : fM) : FrameBlind (fPc X av σ) := fun a U g mk h => by
  obtain ⟨h0, h1, h2, h3, h4⟩ := h
  exact ⟨h0, h1, va_K.moved (u := U) (U := U.calling g mk a) (Vm.Alike.refl U.vm) h2, h3, fZ.moved (u := U) (U := U.calling g mk a) (Vm.Alike.refl U.vm) h4⟩
/-- a method's end: its answer and the memory behind it -/
def fQc (X : fX) (v : Option Value) (σ : fM) : Array Value → State → Outcome → State → Prop := fun _ st oc t => (oc = .returned v ∧ va_P X.1 vwCl (wl X σ) t.heap) ∧ va_F (fA X) st t
abbrev fT (y : MethodName) (cc : ByteArray) (mL : Nat) (ret : Option FieldType) : List Cond := .code y cc mL ret :: lw_gd
abbrev fR (d : Nat) : Room := { frames := d, cells := 0, slots := 0, locals := 36 * d }
/-- the contract: with the arguments av over the memory σ the method y answers v and leaves the memory σ' -/
def Ct (l : Launch) (X : fX) (y : MethodName) (cc : ByteArray) (mL : Nat) (ret : Option FieldType) (d : Nat) (av : List Value) (σ : fM) (v : Option Value) (σ' : fM) : Prop :=
  Met l y (fT y cc mL ret) (fR d) (fPc X av σ) (fQc X v σ') 0 0 (fA X)
/-- the place of a walk -/
abbrev fC : Type := Program × Launch × Env × Room × State × MethodId × Array Value × List Frame × Method × Code × (Addr → Prop) × Nat × Nat × (State → Prop) × Nat
abbrev xp (x : fC) : Program := x.1
abbrev xl (x : fC) : Launch := x.2.1
abbrev xe (x : fC) : Env := x.2.2.1
abbrev xR (x : fC) : Room := x.2.2.2.1
abbrev xs (x : fC) : State := x.2.2.2.2.1
abbrev xm (x : fC) : MethodId := x.2.2.2.2.2.1
abbrev xa (x : fC) : Array Value := x.2.2.2.2.2.2.1
abbrev xb (x : fC) : List Frame := x.2.2.2.2.2.2.2.1
abbrev xM (x : fC) : Method := x.2.2.2.2.2.2.2.2.1
abbrev xc (x : fC) : Code := x.2.2.2.2.2.2.2.2.2.1
abbrev xA (x : fC) : Addr → Prop := x.2.2.2.2.2.2.2.2.2.2.1
abbrev xk (x : fC) : Nat := x.2.2.2.2.2.2.2.2.2.2.2.1
abbrev xn (x : fC) : Nat := x.2.2.2.2.2.2.2.2.2.2.2.2.1
abbrev xQ (x : fC) : State → Prop := x.2.2.2.2.2.2.2.2.2.2.2.2.2.1
abbrev xL (x : fC) : Nat := x.2.2.2.2.2.2.2.2.2.2.2.2.2.2
def G (x : fC) (X : fX) (σ : fM) (L : List (Nat × Value)) (st : List Value) (pc : Nat) : Prop :=
  ∀ (H : Heap) (locs : List Loc) (ls : Array Slot), va_P X.1 vwCl (wl X σ) H → va_S (xA x) (xs x).heap H locs → lv_has ls (xL x) L →
    W (xp x) (xl x) (xe x) (xR x) (xs x) (xm x) (xa x) (xb x) (xM x) (xc x) H locs (xk x) (xn x) (xQ x) (F0 (xm x) pc ls st)
/-- what a walk may use: the machine, the code, the words, the classes, the room -/
def Ok (l : Launch) (x : fC) (X : fX) (cc : ByteArray) (own : String) (d : Nat) : Prop :=
  (xl x = l ∧ (xp x).tables.exec = Jvm.exec ∧ (xc x).code = cc ∧ (xc x).maxLocals = xL x ∧ (xs x).vm.findClass own = some (xm x).cls) ∧ (∀ w ∈ lw_gd, w.before (xa x) (xs x) = true) ∧
  va_K X.1 vwCl (fty X) (xs x) ∧ fAd X (xA x) ∧ fZ X (xA x) (xs x) (xs x).heap ∧ d ≤ (xR x).frames ∧ 36 * d ≤ (xR x).locals ∧ xk x ≤ (xR x).cells ∧ xn x ≤ (xR x).slots
/-- a method's end -/
def Rt (x : fC) (X : fX) (ret : Option FieldType) (v : Option Value) (σ' : fM) : Prop :=
  (xM x).sig.returnType = ret ∧ (xM x).locks = false ∧ xA x = fA X ∧ xQ x = MQ (xb x) (fQc X v σ') (xa x) (xs x) (xk x) (xn x) (fA X)



theorem Ok.hx {l : Launch} {x : fC} {X : fX} {cc : ByteArray} {own : String} {d : Nat} (h : Ok l x X cc own d) : (xp x).tables.exec = Jvm.exec := h.1.2.1
theorem Ok.hb {l : Launch} {x : fC} {X : fX} {cc : ByteArray} {own : String} {d : Nat} (h : Ok l x X cc own d) : (xc x).code = cc := h.1.2.2.1
theorem Ok.hml {l : Launch} {x : fC} {X : fX} {cc : ByteArray} {own : String} {d : Nat} (h : Ok l x X cc own d) : (xc x).maxLocals = xL x := h.1.2.2.2.1
theorem Ok.ho {l : Launch} {x : fC} {X : fX} {cc : ByteArray} {own : String} {d : Nat} (h : Ok l x X cc own d) : (xs x).vm.findClass own = some (xm x).cls := h.1.2.2.2.2
theorem Ok.hts {l : Launch} {x : fC} {X : fX} {cc : ByteArray} {own : String} {d : Nat} (h : Ok l x X cc own d) : ∀ w ∈ lw_gd, w.before (xa x) (xs x) = true := h.2.1
theorem Ok.hK {l : Launch} {x : fC} {X : fX} {cc : ByteArray} {own : String} {d : Nat} (h : Ok l x X cc own d) : va_K X.1 vwCl (fty X) (xs x) := h.2.2.1
theorem Ok.hA {l : Launch} {x : fC} {X : fX} {cc : ByteArray} {own : String} {d : Nat} (h : Ok l x X cc own d) : fAd X (xA x) := h.2.2.2.1
theorem Ok.hZ {l : Launch} {x : fC} {X : fX} {cc : ByteArray} {own : String} {d : Nat} (h : Ok l x X cc own d) : fZ X (xA x) (xs x) (xs x).heap := h.2.2.2.2.1
theorem Ok.hF {l : Launch} {x : fC} {X : fX} {cc : ByteArray} {own : String} {d : Nat} (h : Ok l x X cc own d) : d ≤ (xR x).frames ∧ 36 * d ≤ (xR x).locals := ⟨h.2.2.2.2.2.1, h.2.2.2.2.2.2.1⟩
theorem Ok.hC {l : Launch} {x : fC} {X : fX} {cc : ByteArray} {own : String} {d : Nat} (h : Ok l x X cc own d) : xk x ≤ (xR x).cells ∧ xn x ≤ (xR x).slots := h.2.2.2.2.2.2.2
/-- a contract out of its walk -/
theorem Ct.of {l : Launch} {X : fX} {y : MethodName} {cc : ByteArray} {mL : Nat} {ret : Option FieldType} {d : Nat} {av : List Value} {σ : fM} {v : Option Value} {σ' : fM} (own : String) (hown : y.cls = own) (hy : plainName y.cls = true) (hlen : (lg_sl av).length ≤ mL)
    (body : ∀ x : fC, xL x = mL → Ok l x X cc own d → Rt x X ret v σ' → G x X σ (lv_args 0 av) [] 0) : Ct l X y cc mL ret d av σ v σ' := by
  refine Met.ofW (cc := cc) (maxL := mL) (ret := ret) hy rfl ?_
  intro p e s m args below meth c s₁ B hml hv
  obtain ⟨rfl, hP, hK, hAd, hZ⟩ := hv
  have hts := atoms_spec (ws := fT y cc mL ret) B.pre
  have ho : s.vm.findClass own = some m.cls := hown ▸ findClass_of_methodNamed B.named
  rw [lg_entry_eq]
  exact body (p, l, e, fR d, s, m, av.toArray, below, meth, c, fA X, 0, 0, MQ below (fQc X v σ') av.toArray s 0 0 (fA X), mL) rfl ⟨⟨rfl, B.exec, B.bytes, hml, ho⟩, fun w hw => hts w (List.mem_cons_of_mem _ hw), hK, hAd, hZ, Nat.le_refl _, Nat.le_refl _, Nat.le_refl _, Nat.le_refl _⟩ ⟨B.returns, B.notSynchronized, rfl, rfl⟩ s.heap [] _ hP va_S.rf (lv_entry av hlen)
section RULES
variable {l : Launch} {x : fC} {X : fX} {σ : fM} {L : List (Nat × Value)} {st : List Value} {pc : Nat} {cc : ByteArray} {own : String} {d : Nat}
theorem g_sub (L' : List (Nat × Value)) (hs : lsub L L') (k : G x X σ L' st pc) : G x X σ L st pc := fun H locs ls hP hS hl => k H locs ls hP hS (lsub_has hl L' hs)
theorem g_mem (σ' : fM) (hs : σ = σ') (k : G x X σ' L st pc) : G x X σ L st pc := hs ▸ k
theorem g_st (st' : List Value) (hs : st = st') (k : G x X σ L st' pc) : G x X σ L st pc := hs ▸ k

theorem g_iadd (h : Ok l x X cc own d) {a b : Int32} (hd : decode cc pc = .ok (.iadd, 1)) (k : G x X σ L (.int (a + b) :: st) (pc + 1)) : G x X σ L (.int b :: .int a :: st) pc := fun H locs ls hP hS hl => lv_iadd h.hx h.hb hd (k H locs ls hP hS hl)
theorem g_isub (h : Ok l x X cc own d) {a b : Int32} (hd : decode cc pc = .ok (.isub, 1)) (k : G x X σ L (.int (a - b) :: st) (pc + 1)) : G x X σ L (.int b :: .int a :: st) pc := fun H locs ls hP hS hl => lv_isub h.hx h.hb hd (k H locs ls hP hS hl)
theorem g_imul (h : Ok l x X cc own d) {a b : Int32} (hd : decode cc pc = .ok (.imul, 1)) (k : G x X σ L (.int (a * b) :: st) (pc + 1)) : G x X σ L (.int b :: .int a :: st) pc := fun H locs ls hP hS hl => lv_imul h.hx h.hb hd (k H locs ls hP hS hl)
theorem g_iand (h : Ok l x X cc own d) {a b : Int32} (hd : decode cc pc = .ok (.iand, 1)) (k : G x X σ L (.int (a &&& b) :: st) (pc + 1)) : G x X σ L (.int b :: .int a :: st) pc := fun H locs ls hP hS hl => lv_iand h.hx h.hb hd (k H locs ls hP hS hl)
theorem g_ior (h : Ok l x X cc own d) {a b : Int32} (hd : decode cc pc = .ok (.ior, 1)) (k : G x X σ L (.int (a ||| b) :: st) (pc + 1)) : G x X σ L (.int b :: .int a :: st) pc := fun H locs ls hP hS hl => lv_ior h.hx h.hb hd (k H locs ls hP hS hl)
theorem g_ixor (h : Ok l x X cc own d) {a b : Int32} (hd : decode cc pc = .ok (.ixor, 1)) (k : G x X σ L (.int (a ^^^ b) :: st) (pc + 1)) : G x X σ L (.int b :: .int a :: st) pc := fun H locs ls hP hS hl => lv_ixor h.hx h.hb hd (k H locs ls hP hS hl)
theorem g_idiv (h : Ok l x X cc own d) {a b : Int32} (hd : decode cc pc = .ok (.idiv, 1)) (hne : ¬ b = 0) (k : G x X σ L (.int (a / b) :: st) (pc + 1)) : G x X σ L (.int b :: .int a :: st) pc := fun H locs ls hP hS hl => lv_idiv h.hx h.hb hd hne (k H locs ls hP hS hl)
theorem g_irem (h : Ok l x X cc own d) {a b : Int32} (hd : decode cc pc = .ok (.irem, 1)) (hne : ¬ b = 0) (k : G x X σ L (.int (a - a / b * b) :: st) (pc + 1)) : G x X σ L (.int b :: .int a :: st) pc := fun H locs ls hP hS hl => lv_irem h.hx h.hb hd hne (k H locs ls hP hS hl)
theorem g_ineg (h : Ok l x X cc own d) {a : Int32} (hd : decode cc pc = .ok (.ineg, 1)) (k : G x X σ L (.int (-a) :: st) (pc + 1)) : G x X σ L (.int a :: st) pc := fun H locs ls hP hS hl => lv_ineg h.hx h.hb hd (k H locs ls hP hS hl)
theorem g_ladd (h : Ok l x X cc own d) {a b : Int64} (hd : decode cc pc = .ok (.ladd, 1)) (k : G x X σ L (.long (a + b) :: st) (pc + 1)) : G x X σ L (.long b :: .long a :: st) pc := fun H locs ls hP hS hl => lv_ladd h.hx h.hb hd (k H locs ls hP hS hl)
theorem g_lsub (h : Ok l x X cc own d) {a b : Int64} (hd : decode cc pc = .ok (.lsub, 1)) (k : G x X σ L (.long (a - b) :: st) (pc + 1)) : G x X σ L (.long b :: .long a :: st) pc := fun H locs ls hP hS hl => lv_lsub h.hx h.hb hd (k H locs ls hP hS hl)
theorem g_lmul (h : Ok l x X cc own d) {a b : Int64} (hd : decode cc pc = .ok (.lmul, 1)) (k : G x X σ L (.long (a * b) :: st) (pc + 1)) : G x X σ L (.long b :: .long a :: st) pc := fun H locs ls hP hS hl => lv_lmul h.hx h.hb hd (k H locs ls hP hS hl)
theorem g_land (h : Ok l x X cc own d) {a b : Int64} (hd : decode cc pc = .ok (.land, 1)) (k : G x X σ L (.long (a &&& b) :: st) (pc + 1)) : G x X σ L (.long b :: .long a :: st) pc := fun H locs ls hP hS hl => lv_land h.hx h.hb hd (k H locs ls hP hS hl)
theorem g_lor (h : Ok l x X cc own d) {a b : Int64} (hd : decode cc pc = .ok (.lor, 1)) (k : G x X σ L (.long (a ||| b) :: st) (pc + 1)) : G x X σ L (.long b :: .long a :: st) pc := fun H locs ls hP hS hl => lv_lor h.hx h.hb hd (k H locs ls hP hS hl)
theorem g_ldiv (h : Ok l x X cc own d) {a b : Int64} (hd : decode cc pc = .ok (.ldiv, 1)) (hne : ¬ b = 0) (k : G x X σ L (.long (a / b) :: st) (pc + 1)) : G x X σ L (.long b :: .long a :: st) pc := fun H locs ls hP hS hl => lv_ldiv h.hx h.hb hd hne (k H locs ls hP hS hl)
theorem g_lrem (h : Ok l x X cc own d) {a b : Int64} (hd : decode cc pc = .ok (.lrem, 1)) (hne : ¬ b = 0) (k : G x X σ L (.long (a - a / b * b) :: st) (pc + 1)) : G x X σ L (.long b :: .long a :: st) pc := fun H locs ls hP hS hl => lv_lrem h.hx h.hb hd hne (k H locs ls hP hS hl)
theorem g_lcmp (h : Ok l x X cc own d) {a b : Int64} (hd : decode cc pc = .ok (.lcmp, 1)) (k : G x X σ L (.int (lg_cmp a b) :: st) (pc + 1)) : G x X σ L (.long b :: .long a :: st) pc := fun H locs ls hP hS hl => W.lcmp h.hx h.hb hd (k H locs ls hP hS hl)
theorem g_ishl (h : Ok l x X cc own d) {a b : Int32} (hd : decode cc pc = .ok (.ishl, 1)) (k : G x X σ L (.int (a <<< (b &&& 31)) :: st) (pc + 1)) : G x X σ L (.int b :: .int a :: st) pc := fun H locs ls hP hS hl => lv_ishl h.hx h.hb hd (k H locs ls hP hS hl)
theorem g_ishr (h : Ok l x X cc own d) {a b : Int32} (hd : decode cc pc = .ok (.ishr, 1)) (k : G x X σ L (.int (a >>> (b &&& 31)) :: st) (pc + 1)) : G x X σ L (.int b :: .int a :: st) pc := fun H locs ls hP hS hl => lv_ishr h.hx h.hb hd (k H locs ls hP hS hl)
theorem g_lshl (h : Ok l x X cc own d) {a : Int64} {b : Int32} (hd : decode cc pc = .ok (.lshl, 1)) (k : G x X σ L (.long (a <<< (b.toInt64 &&& 63)) :: st) (pc + 1)) : G x X σ L (.int b :: .long a :: st) pc := fun H locs ls hP hS hl => lv_lshl h.hx h.hb hd rfl (k H locs ls hP hS hl)
theorem g_lushr (h : Ok l x X cc own d) {a : Int64} {b : Int32} (hd : decode cc pc = .ok (.lushr, 1)) (k : G x X σ L (.long ((a.toUInt64 >>> (b.toInt64.toUInt64 &&& Int64.toUInt64 63)).toInt64) :: st) (pc + 1)) : G x X σ L (.int b :: .long a :: st) pc := fun H locs ls hP hS hl => lv_lushr h.hx h.hb hd rfl (k H locs ls hP hS hl)
theorem g_i2l (h : Ok l x X cc own d) {a : Int32} (hd : decode cc pc = .ok (.i2l, 1)) (k : G x X σ L (.long a.toInt64 :: st) (pc + 1)) : G x X σ L (.int a :: st) pc := fun H locs ls hP hS hl => lv_i2l h.hx h.hb hd rfl (k H locs ls hP hS hl)
theorem g_l2i (h : Ok l x X cc own d) {a : Int64} (hd : decode cc pc = .ok (.l2i, 1)) (k : G x X σ L (.int a.toInt32 :: st) (pc + 1)) : G x X σ L (.long a :: st) pc := fun H locs ls hP hS hl => lv_l2i h.hx h.hb hd rfl (k H locs ls hP hS hl)
theorem g_i2c (h : Ok l x X cc own d) {a : Int32} (hd : decode cc pc = .ok (.i2c, 1)) (k : G x X σ L (.int (a.toUInt32 % 65536).toInt32 :: st) (pc + 1)) : G x X σ L (.int a :: st) pc := fun H locs ls hP hS hl => lv_i2c h.hx h.hb hd rfl (k H locs ls hP hS hl)
theorem g_iconst (h : Ok l x X cc own d) {n : Int} (hd : decode cc pc = .ok (.iconst n, 1)) {v : Int32} (hv : Int32.ofInt n = v) (k : G x X σ L (.int v :: st) (pc + 1)) : G x X σ L (st) pc := fun H locs ls hP hS hl => lv_iconst h.hx h.hb hd hv (k H locs ls hP hS hl)
theorem g_bipush (h : Ok l x X cc own d) {n : Int} (hd : decode cc pc = .ok (.bipush n, 2)) {v : Int32} (hv : (Int8.ofInt n).toInt32 = v) (k : G x X σ L (.int v :: st) (pc + 2)) : G x X σ L (st) pc := fun H locs ls hP hS hl => lv_bipush h.hx h.hb hd hv (k H locs ls hP hS hl)
theorem g_sipush (h : Ok l x X cc own d) {n : Int} (hd : decode cc pc = .ok (.sipush n, 3)) {v : Int32} (hv : (Int16.ofInt n).toInt32 = v) (k : G x X σ L (.int v :: st) (pc + 3)) : G x X σ L (st) pc := fun H locs ls hP hS hl => lv_sipush h.hx h.hb hd hv (k H locs ls hP hS hl)
theorem g_lconst (h : Ok l x X cc own d) {n : Fin 2} (hd : decode cc pc = .ok (.lconst n, 1)) {v : Int64} (hv : Int64.ofNat (n : Nat) = v) (k : G x X σ L (.long v :: st) (pc + 1)) : G x X σ L (st) pc := fun H locs ls hP hS hl => lv_lconst h.hx h.hb hd hv (k H locs ls hP hS hl)
theorem g_dup (h : Ok l x X cc own d) {a : Value} (hd : decode cc pc = .ok (.dup, 1)) (hc : a.category = 1) (k : G x X σ L (a :: a :: st) (pc + 1)) : G x X σ L (a :: st) pc := fun H locs ls hP hS hl => lv_dup h.hx h.hb hd hc (k H locs ls hP hS hl)
theorem g_dup_x1 (h : Ok l x X cc own d) {a b : Value} (hd : decode cc pc = .ok (.dup_x1, 1)) (hc : a.category = 1) (hc2 : b.category = 1) (k : G x X σ L (a :: b :: a :: st) (pc + 1)) : G x X σ L (a :: b :: st) pc := fun H locs ls hP hS hl => lv_dup_x1 h.hx h.hb hd hc hc2 (k H locs ls hP hS hl)
theorem g_dup_x2 (h : Ok l x X cc own d) {a b c : Value} (hd : decode cc pc = .ok (.dup_x2, 1)) (hc : a.category = 1) (hc2 : b.category = 1) (hc3 : c.category = 1) (k : G x X σ L (a :: b :: c :: a :: st) (pc + 1)) : G x X σ L (a :: b :: c :: st) pc := fun H locs ls hP hS hl => lv_dup_x2 h.hx h.hb hd hc hc2 hc3 (k H locs ls hP hS hl)
theorem g_dup2 (h : Ok l x X cc own d) {a b : Value} (hd : decode cc pc = .ok (.dup2, 1)) (hc : a.category = 1) (hc2 : b.category = 1) (k : G x X σ L (a :: b :: a :: b :: st) (pc + 1)) : G x X σ L (a :: b :: st) pc := fun H locs ls hP hS hl => lv_dup2_11 h.hx h.hb hd hc hc2 (k H locs ls hP hS hl)
theorem g_pop (h : Ok l x X cc own d) {a : Value} (hd : decode cc pc = .ok (.pop, 1)) (hc : a.category = 1) (k : G x X σ L (st) (pc + 1)) : G x X σ L (a :: st) pc := fun H locs ls hP hS hl => lv_pop h.hx h.hb hd hc (k H locs ls hP hS hl)
theorem g_i2f (h : Ok l x X cc own d) {a : Int32} (hd : decode cc pc = .ok (.i2f, 1)) (k : G x X σ L (.float (FP.i2f a) :: st) (pc + 1)) : G x X σ L (.int a :: st) pc := fun H locs ls hP hS hl => lv_i2f h.hx h.hb hd (k H locs ls hP hS hl)
theorem g_f2i (h : Ok l x X cc own d) {a : UInt32} (hd : decode cc pc = .ok (.f2i, 1)) (k : G x X σ L (.int (FP.f2i a) :: st) (pc + 1)) : G x X σ L (.float a :: st) pc := fun H locs ls hP hS hl => lv_f2i h.hx h.hb hd (k H locs ls hP hS hl)
theorem g_fcmp (h : Ok l x X cc own d) {a b : UInt32} {o : CmpOp} (hd : decode cc pc = .ok (.fcmp o, 1)) (k : G x X σ L (.int (Op.cmpValue (FP.fcmp a b) o) :: st) (pc + 1)) : G x X σ L (.float b :: .float a :: st) pc := fun H locs ls hP hS hl => lv_fcmp h.hx h.hb hd (k H locs ls hP hS hl)
theorem g_fmul (h : Ok l x X cc own d) {a b : UInt32} (hd : decode cc pc = .ok (.fmul, 1)) (hne : vf_n32 (FP.fmul a b)) (k : G x X σ L (.float (FP.fmul a b) :: st) (pc + 1)) : G x X σ L (.float b :: .float a :: st) pc := fun H locs ls hP hS hl => lv_fmul h.hx h.hb hd hne (k H locs ls hP hS hl)
theorem g_fdiv (h : Ok l x X cc own d) {a b : UInt32} (hd : decode cc pc = .ok (.fdiv, 1)) (hne : vf_n32 (FP.fdiv a b)) (k : G x X σ L (.float (FP.fdiv a b) :: st) (pc + 1)) : G x X σ L (.float b :: .float a :: st) pc := fun H locs ls hP hS hl => lv_fdiv h.hx h.hb hd hne (k H locs ls hP hS hl)
theorem g_fconst1 (h : Ok l x X cc own d) (hd : decode cc pc = .ok (.fconst 1, 1)) (k : G x X σ L (.float FP.fconst1 :: st) (pc + 1)) : G x X σ L (st) pc := fun H locs ls hP hS hl => lv_fconst1 h.hx h.hb hd (k H locs ls hP hS hl)
theorem g_fconst2 (h : Ok l x X cc own d) (hd : decode cc pc = .ok (.fconst 2, 1)) (k : G x X σ L (.float FP.fconst2 :: st) (pc + 1)) : G x X σ L (st) pc := fun H locs ls hP hS hl => lv_fconst2 h.hx h.hb hd (k H locs ls hP hS hl)
theorem g_iload_n (h : Ok l x X cc own d) {k4 : Fin 4} {v : Int32} (hd : decode cc pc = .ok (.iload_n k4, 1)) (hv : lk L (k4 : Nat) = some (.int v)) (k : G x X σ L (.int v :: st) (pc + 1)) : G x X σ L st pc := fun H locs ls hP hS hl => lv_iload_n h.hx h.hb hd rfl (lk_has hl hv) (k H locs ls hP hS hl)
theorem g_iload (h : Ok l x X cc own d) {i : Nat} {v : Int32} (hd : decode cc pc = .ok (.iload i, 2)) (hv : lk L i = some (.int v)) (k : G x X σ L (.int v :: st) (pc + 2)) : G x X σ L st pc := fun H locs ls hP hS hl => lv_iload h.hx h.hb hd (lk_has hl hv) (k H locs ls hP hS hl)
theorem g_istore_n (h : Ok l x X cc own d) {k4 : Fin 4} {v : Int32} (hd : decode cc pc = .ok (.istore_n k4, 1)) (hn : (k4 : Nat) < xL x) (k : G x X σ (ls1 L (k4 : Nat) (.int v)) st (pc + 1)) : G x X σ L (.int v :: st) pc := fun H locs ls hP hS hl => lv_istore_n h.hx h.hb hd rfl hl hn rfl (fun ls' hl' => k H locs ls' hP hS hl')
theorem g_istore (h : Ok l x X cc own d) {i : Nat} {v : Int32} (hd : decode cc pc = .ok (.istore i, 2)) (hn : i < xL x) (k : G x X σ (ls1 L i (.int v)) st (pc + 2)) : G x X σ L (.int v :: st) pc := fun H locs ls hP hS hl => lv_istore h.hx h.hb hd hl hn rfl (fun ls' hl' => k H locs ls' hP hS hl')
theorem g_lload_n (h : Ok l x X cc own d) {k4 : Fin 4} {v : Int64} (hd : decode cc pc = .ok (.lload_n k4, 1)) (hv : lk L (k4 : Nat) = some (.long v)) (k : G x X σ L (.long v :: st) (pc + 1)) : G x X σ L st pc := fun H locs ls hP hS hl => lv_lload_n h.hx h.hb hd rfl (lk_has hl hv) (k H locs ls hP hS hl)
theorem g_lload (h : Ok l x X cc own d) {i : Nat} {v : Int64} (hd : decode cc pc = .ok (.lload i, 2)) (hv : lk L i = some (.long v)) (k : G x X σ L (.long v :: st) (pc + 2)) : G x X σ L st pc := fun H locs ls hP hS hl => lv_lload h.hx h.hb hd (lk_has hl hv) (k H locs ls hP hS hl)
theorem g_lstore_n (h : Ok l x X cc own d) {k4 : Fin 4} {v : Int64} (hd : decode cc pc = .ok (.lstore_n k4, 1)) (hn : (k4 : Nat) + 1 < xL x) (k : G x X σ (ls2 L (k4 : Nat) (.long v)) st (pc + 1)) : G x X σ L (.long v :: st) pc := fun H locs ls hP hS hl => lv_lstore_n h.hx h.hb hd rfl hl hn rfl (fun ls' hl' => k H locs ls' hP hS hl')
theorem g_lstore (h : Ok l x X cc own d) {i : Nat} {v : Int64} (hd : decode cc pc = .ok (.lstore i, 2)) (hn : i + 1 < xL x) (k : G x X σ (ls2 L i (.long v)) st (pc + 2)) : G x X σ L (.long v :: st) pc := fun H locs ls hP hS hl => lv_lstore h.hx h.hb hd hl hn rfl (fun ls' hl' => k H locs ls' hP hS hl')
theorem g_fload_n (h : Ok l x X cc own d) {k4 : Fin 4} {v : UInt32} (hd : decode cc pc = .ok (.fload_n k4, 1)) (hv : lk L (k4 : Nat) = some (.float v)) (k : G x X σ L (.float v :: st) (pc + 1)) : G x X σ L st pc := fun H locs ls hP hS hl => lv_fload_n h.hx h.hb hd rfl (lk_has hl hv) (k H locs ls hP hS hl)
theorem g_fload (h : Ok l x X cc own d) {i : Nat} {v : UInt32} (hd : decode cc pc = .ok (.fload i, 2)) (hv : lk L i = some (.float v)) (k : G x X σ L (.float v :: st) (pc + 2)) : G x X σ L st pc := fun H locs ls hP hS hl => lv_fload h.hx h.hb hd (lk_has hl hv) (k H locs ls hP hS hl)
theorem g_fstore_n (h : Ok l x X cc own d) {k4 : Fin 4} {v : UInt32} (hd : decode cc pc = .ok (.fstore_n k4, 1)) (hn : (k4 : Nat) < xL x) (k : G x X σ (ls1 L (k4 : Nat) (.float v)) st (pc + 1)) : G x X σ L (.float v :: st) pc := fun H locs ls hP hS hl => lv_fstore_n h.hx h.hb hd rfl hl hn rfl (fun ls' hl' => k H locs ls' hP hS hl')
theorem g_fstore (h : Ok l x X cc own d) {i : Nat} {v : UInt32} (hd : decode cc pc = .ok (.fstore i, 2)) (hn : i < xL x) (k : G x X σ (ls1 L i (.float v)) st (pc + 2)) : G x X σ L (.float v :: st) pc := fun H locs ls hP hS hl => lv_fstore h.hx h.hb hd hl hn rfl (fun ls' hl' => k H locs ls' hP hS hl')
theorem g_aload_n (h : Ok l x X cc own d) {k4 : Fin 4} {v : Nat} (hd : decode cc pc = .ok (.aload_n k4, 1)) (hv : lk L (k4 : Nat) = some (.ref v)) (k : G x X σ L (.ref v :: st) (pc + 1)) : G x X σ L st pc := fun H locs ls hP hS hl => lv_aload_n h.hx h.hb hd rfl (lk_has hl hv) (k H locs ls hP hS hl)
theorem g_aload (h : Ok l x X cc own d) {i : Nat} {v : Nat} (hd : decode cc pc = .ok (.aload i, 2)) (hv : lk L i = some (.ref v)) (k : G x X σ L (.ref v :: st) (pc + 2)) : G x X σ L st pc := fun H locs ls hP hS hl => lv_aload h.hx h.hb hd (lk_has hl hv) (k H locs ls hP hS hl)
theorem g_astore_n (h : Ok l x X cc own d) {k4 : Fin 4} {v : Nat} (hd : decode cc pc = .ok (.astore_n k4, 1)) (hn : (k4 : Nat) < xL x) (k : G x X σ (ls1 L (k4 : Nat) (.ref v)) st (pc + 1)) : G x X σ L (.ref v :: st) pc := fun H locs ls hP hS hl => lv_astore_n h.hx h.hb hd rfl hl hn rfl (fun ls' hl' => k H locs ls' hP hS hl')
theorem g_astore (h : Ok l x X cc own d) {i : Nat} {v : Nat} (hd : decode cc pc = .ok (.astore i, 2)) (hn : i < xL x) (k : G x X σ (ls1 L i (.ref v)) st (pc + 2)) : G x X σ L (.ref v :: st) pc := fun H locs ls hP hS hl => lv_astore h.hx h.hb hd hl hn rfl (fun ls' hl' => k H locs ls' hP hS hl')
theorem lk_place : ∀ (L : List (Nat × Value)) (i : Nat) (v : Value), lk L i = some v → ∃ k : Nat, L[k]? = some (i, v) := fun L i v h => List.getElem?_of_mem (lk_mem L i v h)
theorem g_iinc (h : Ok l x X cc own d) {i : Nat} {n : Int} {v : Int32} (hd : decode cc pc = .ok (.iinc i n, 3)) (hv : lk L i = some (.int v)) (hn : i < xL x) (k : G x X σ (ls1 L i (.int (v + Int32.ofInt n))) st (pc + 3)) : G x X σ L st pc := fun H locs ls hP hS hl => by
  obtain ⟨q, hq⟩ := lk_place L i _ hv
  exact lv_iinc h.hx h.hb hd hl hq rfl hn rfl (fun ls' hl' => k H locs ls' hP hS hl')
theorem g_ifeq (h : Ok l x X cc own d) {a : Int32} {off : Int} (tgt : Nat) (hd : decode cc pc = .ok (.ifCond .eq off, 3)) (ht : (pc : Int) + off = (tgt : Int)) (kt : a = 0 → G x X σ L st tgt) (kf : ¬ a = 0 → G x X σ L st (pc + 3)) : G x X σ L (.int a :: st) pc := fun H locs ls hP hS hl => lv_if_eq h.hx h.hb hd ht (fun c => kt c H locs ls hP hS hl) (fun c => kf c H locs ls hP hS hl)
theorem g_ifne (h : Ok l x X cc own d) {a : Int32} {off : Int} (tgt : Nat) (hd : decode cc pc = .ok (.ifCond .ne off, 3)) (ht : (pc : Int) + off = (tgt : Int)) (kt : ¬ a = 0 → G x X σ L st tgt) (kf : a = 0 → G x X σ L st (pc + 3)) : G x X σ L (.int a :: st) pc := fun H locs ls hP hS hl => lv_if_ne h.hx h.hb hd ht (fun c => kt c H locs ls hP hS hl) (fun c => kf c H locs ls hP hS hl)
theorem g_iflt (h : Ok l x X cc own d) {a : Int32} {off : Int} (tgt : Nat) (hd : decode cc pc = .ok (.ifCond .lt off, 3)) (ht : (pc : Int) + off = (tgt : Int)) (kt : a < 0 → G x X σ L st tgt) (kf : ¬ a < 0 → G x X σ L st (pc + 3)) : G x X σ L (.int a :: st) pc := fun H locs ls hP hS hl => lv_if_lt h.hx h.hb hd ht (fun c => kt c H locs ls hP hS hl) (fun c => kf c H locs ls hP hS hl)
theorem g_ifge (h : Ok l x X cc own d) {a : Int32} {off : Int} (tgt : Nat) (hd : decode cc pc = .ok (.ifCond .ge off, 3)) (ht : (pc : Int) + off = (tgt : Int)) (kt : 0 ≤ a → G x X σ L st tgt) (kf : ¬ 0 ≤ a → G x X σ L st (pc + 3)) : G x X σ L (.int a :: st) pc := fun H locs ls hP hS hl => lv_if_ge h.hx h.hb hd ht (fun c => kt c H locs ls hP hS hl) (fun c => kf c H locs ls hP hS hl)
theorem g_ifgt (h : Ok l x X cc own d) {a : Int32} {off : Int} (tgt : Nat) (hd : decode cc pc = .ok (.ifCond .gt off, 3)) (ht : (pc : Int) + off = (tgt : Int)) (kt : 0 < a → G x X σ L st tgt) (kf : ¬ 0 < a → G x X σ L st (pc + 3)) : G x X σ L (.int a :: st) pc := fun H locs ls hP hS hl => lv_if_gt h.hx h.hb hd ht (fun c => kt c H locs ls hP hS hl) (fun c => kf c H locs ls hP hS hl)
theorem g_ifle (h : Ok l x X cc own d) {a : Int32} {off : Int} (tgt : Nat) (hd : decode cc pc = .ok (.ifCond .le off, 3)) (ht : (pc : Int) + off = (tgt : Int)) (kt : a ≤ 0 → G x X σ L st tgt) (kf : ¬ a ≤ 0 → G x X σ L st (pc + 3)) : G x X σ L (.int a :: st) pc := fun H locs ls hP hS hl => lv_if_le h.hx h.hb hd ht (fun c => kt c H locs ls hP hS hl) (fun c => kf c H locs ls hP hS hl)
theorem g_iceq (h : Ok l x X cc own d) {a b : Int32} {off : Int} (tgt : Nat) (hd : decode cc pc = .ok (.if_icmp .eq off, 3)) (ht : (pc : Int) + off = (tgt : Int)) (kt : a = b → G x X σ L st tgt) (kf : ¬ a = b → G x X σ L st (pc + 3)) : G x X σ L (.int b :: .int a :: st) pc := fun H locs ls hP hS hl => lv_icmp_eq h.hx h.hb hd ht (fun c => kt c H locs ls hP hS hl) (fun c => kf c H locs ls hP hS hl)
theorem g_icne (h : Ok l x X cc own d) {a b : Int32} {off : Int} (tgt : Nat) (hd : decode cc pc = .ok (.if_icmp .ne off, 3)) (ht : (pc : Int) + off = (tgt : Int)) (kt : ¬ a = b → G x X σ L st tgt) (kf : a = b → G x X σ L st (pc + 3)) : G x X σ L (.int b :: .int a :: st) pc := fun H locs ls hP hS hl => lv_icmp_ne h.hx h.hb hd ht (fun c => kt c H locs ls hP hS hl) (fun c => kf c H locs ls hP hS hl)
theorem g_iclt (h : Ok l x X cc own d) {a b : Int32} {off : Int} (tgt : Nat) (hd : decode cc pc = .ok (.if_icmp .lt off, 3)) (ht : (pc : Int) + off = (tgt : Int)) (kt : a < b → G x X σ L st tgt) (kf : ¬ a < b → G x X σ L st (pc + 3)) : G x X σ L (.int b :: .int a :: st) pc := fun H locs ls hP hS hl => lv_icmp_lt h.hx h.hb hd ht (fun c => kt c H locs ls hP hS hl) (fun c => kf c H locs ls hP hS hl)
theorem g_icge (h : Ok l x X cc own d) {a b : Int32} {off : Int} (tgt : Nat) (hd : decode cc pc = .ok (.if_icmp .ge off, 3)) (ht : (pc : Int) + off = (tgt : Int)) (kt : b ≤ a → G x X σ L st tgt) (kf : ¬ b ≤ a → G x X σ L st (pc + 3)) : G x X σ L (.int b :: .int a :: st) pc := fun H locs ls hP hS hl => lv_icmp_ge h.hx h.hb hd ht (fun c => kt c H locs ls hP hS hl) (fun c => kf c H locs ls hP hS hl)
theorem g_icgt (h : Ok l x X cc own d) {a b : Int32} {off : Int} (tgt : Nat) (hd : decode cc pc = .ok (.if_icmp .gt off, 3)) (ht : (pc : Int) + off = (tgt : Int)) (kt : b < a → G x X σ L st tgt) (kf : ¬ b < a → G x X σ L st (pc + 3)) : G x X σ L (.int b :: .int a :: st) pc := fun H locs ls hP hS hl => lv_icmp_gt h.hx h.hb hd ht (fun c => kt c H locs ls hP hS hl) (fun c => kf c H locs ls hP hS hl)
theorem g_icle (h : Ok l x X cc own d) {a b : Int32} {off : Int} (tgt : Nat) (hd : decode cc pc = .ok (.if_icmp .le off, 3)) (ht : (pc : Int) + off = (tgt : Int)) (kt : a ≤ b → G x X σ L st tgt) (kf : ¬ a ≤ b → G x X σ L st (pc + 3)) : G x X σ L (.int b :: .int a :: st) pc := fun H locs ls hP hS hl => lv_icmp_le h.hx h.hb hd ht (fun c => kt c H locs ls hP hS hl) (fun c => kf c H locs ls hP hS hl)
theorem g_goto (h : Ok l x X cc own d) {off : Int} (tgt : Nat) (hd : decode cc pc = .ok (.goto off, 3)) (ht : (pc : Int) + off = (tgt : Int)) (k : G x X σ L st tgt) : G x X σ L st pc := fun H locs ls hP hS hl => lv_goto h.hx h.hb hd ht (k H locs ls hP hS hl)
theorem g_tsIn (h : Ok l x X cc own d) {dflt lo hi : Int} {offs : Array Int} {len : Nat} {a : Int32} {off : Int} (tgt : Nat) (hd : decode cc pc = .ok (.tableswitch dflt lo hi offs, len)) (h1 : ¬ a.toInt < lo) (h2 : ¬ hi < a.toInt) (hoff : offs[(a.toInt - lo).toNat]? = some off) (ht : (pc : Int) + off = (tgt : Int)) (k : G x X σ L st tgt) : G x X σ L (.int a :: st) pc := fun H locs ls hP hS hl => lv_tableIn h.hx h.hb hd h1 h2 hoff ht (k H locs ls hP hS hl)
theorem g_tsOut (h : Ok l x X cc own d) {dflt lo hi : Int} {offs : Array Int} {len : Nat} {a : Int32} (tgt : Nat) (hd : decode cc pc = .ok (.tableswitch dflt lo hi offs, len)) (h1 : a.toInt < lo ∨ hi < a.toInt) (ht : (pc : Int) + dflt = (tgt : Int)) (k : G x X σ L st tgt) : G x X σ L (.int a :: st) pc := fun H locs ls hP hS hl => lv_tableOut h.hx h.hb hd h1 ht (k H locs ls hP hS hl)
theorem g_ldc (h : Ok l x X cc own d) {idx : Nat} (v : Int32) (hw : Cond.constant own idx v ∈ lw_gd) (hd : decode cc pc = .ok (.ldc idx, 2)) (k : G x X σ L (.int v :: st) (pc + 2)) : G x X σ L st pc := fun H locs ls hP hS hl => lv_ldc h.hx h.hb h.ho (h.hts _ hw) hd (k H locs ls hP hS hl)
theorem g_ldc2 (h : Ok l x X cc own d) {idx : Nat} (v : Int64) (hw : Cond.constantLong own idx v ∈ lw_gd) (hd : decode cc pc = .ok (.ldc2_w idx, 3)) (k : G x X σ L (.long v :: st) (pc + 3)) : G x X σ L st pc := fun H locs ls hP hS hl => lv_ldc2 h.hx h.hb h.ho (h.hts _ hw) hd (k H locs ls hP hS hl)
theorem g_ldcf (h : Ok l x X cc own d) {idx : Nat} (v : UInt32) (hw : Cond.constantFloat own idx v ∈ lw_gd) (hd : decode cc pc = .ok (.ldc idx, 2)) (k : G x X σ L (.float v :: st) (pc + 2)) : G x X σ L st pc := fun H locs ls hP hS hl => lv_ldcf h.hx h.hb h.ho (h.hts _ hw) hd (k H locs ls hP hS hl)
/-- ends -/
theorem g_iret (h : Ok l x X cc own d) {r a : Int32} {σ' : fM} (hr : Rt x X (some .int) (some (.int r)) σ') (hd : decode cc pc = .ok (.ireturn, 1)) (ha : a = r) (hσ : σ = σ') : G x X σ L [.int a] pc := fun H locs ls hP hS hl => by
  subst ha; subst hσ
  show W _ _ _ _ _ _ _ _ _ _ _ _ _ _ _ _
  rw [hr.2.2.2]
  rw [hr.2.2.1] at hS
  exact W.iret h.hx h.hb hr.1 (fun t ht hW => ⟨⟨rfl, by rw [ht]; exact hP⟩, hS.F ht⟩) hS.2.2 hd hr.2.1
theorem g_zret (h : Ok l x X cc own d) {r a : Int32} {ty : FieldType} {σ' : fM} (hr : Rt x X (some ty) (some (.int r)) σ') (hn : narrow ty (.int a) = .int a) (hd : decode cc pc = .ok (.ireturn, 1)) (ha : a = r) (hσ : σ = σ') : G x X σ L [.int a] pc := fun H locs ls hP hS hl => by
  subst ha; subst hσ
  show W _ _ _ _ _ _ _ _ _ _ _ _ _ _ _ _
  rw [hr.2.2.2]
  rw [hr.2.2.1] at hS
  exact W.zret h.hx h.hb hr.1 hn (fun t ht hW => ⟨⟨rfl, by rw [ht]; exact hP⟩, hS.F ht⟩) hS.2.2 hd hr.2.1
theorem g_vret (h : Ok l x X cc own d) {σ' : fM} (hr : Rt x X none none σ') (hd : decode cc pc = .ok (.return_, 1)) (hσ : σ = σ') : G x X σ L [] pc := fun H locs ls hP hS hl => by
  subst hσ
  show W _ _ _ _ _ _ _ _ _ _ _ _ _ _ _ _
  rw [hr.2.2.2]
  rw [hr.2.2.1] at hS
  exact W.vret h.hx h.hb hr.1 (fun t ht hW => ⟨⟨rfl, by rw [ht]; exact hP⟩, hS.F ht⟩) hS.2.2 hd hr.2.1
/-- an int array is read -/
theorem g_iald (h : Ok l x X cc own d) {k n : Nat} {i : Int32} (hk : k < nX X) (he : ∀ row e, enc X k row e = .inl (X.2.2.1 0, n, .inl row)) (hin : vp_in i n) (hd : decode cc pc = .ok (.iaload, 1)) (kk : G x X σ L (.int (σ.1 k i.toNatClampNeg) :: st) (pc + 1)) : G x X σ L (.int i :: ra X k :: st) pc := fun H locs ls hP hS hl =>
  va_iald h.hx h.hb h.hK hP k 0 (by rw [wl_get hk, he]) rfl hin hd (kk H locs ls hP hS hl)
theorem g_cald (h : Ok l x X cc own d) {k n : Nat} {i : Int32} (hk : k < nX X) (he : ∀ row e, enc X k row e = .inl (X.2.2.1 1, n, .inl row)) (hin : vp_in i n) (hd : decode cc pc = .ok (.caload, 1)) (kk : G x X σ L (.int (σ.1 k i.toNatClampNeg) :: st) (pc + 1)) : G x X σ L (.int i :: ra X k :: st) pc := fun H locs ls hP hS hl =>
  va_cald h.hx h.hb h.hK hP k 1 (by rw [wl_get hk, he]) rfl hin hd (kk H locs ls hP hS hl)
theorem pu_upd (σ : fM) (k j : Nat) (v : Int32) : (pu σ k j v).1 k = upd (σ.1 k) j v := by rw [pu_row]; rfl
theorem g_iast (h : Ok l x X cc own d) {k n : Nat} {i v : Int32} (hk : k < nX X) (he : ∀ row e, enc X k row e = .inl (X.2.2.1 0, n, .inl row)) (hin : vp_in i n) (hd : decode cc pc = .ok (.iastore, 1)) (kk : G x X (pu σ k i.toNatClampNeg v) L st (pc + 1)) : G x X σ L (.int v :: .int i :: ra X k :: st) pc := fun H locs ls hP hS hl =>
  va_iast h.hx h.hb h.hK hP (wl_D h.hA σ) hS k 0 (by rw [wl_get hk, he]) rfl hin hd (fun H1 locs1 hP1 hD1 hS1 => kk H1 locs1 ls (by rw [wl_set (σ' := pu σ k i.toNatClampNeg v) (by rw [he, pu_upd]) (fun k' hne => pu_ne k' hne) (fun _ _ => rfl)] at hP1; exact hP1) hS1 hl)
theorem g_cast (h : Ok l x X cc own d) {k n : Nat} {i v : Int32} (hk : k < nX X) (he : ∀ row e, enc X k row e = .inl (X.2.2.1 1, n, .inl row)) (hin : vp_in i n) (hv : vp_nar .char v = v) (hd : decode cc pc = .ok (.castore, 1)) (kk : G x X (pu σ k i.toNatClampNeg v) L st (pc + 1)) : G x X σ L (.int v :: .int i :: ra X k :: st) pc := fun H locs ls hP hS hl =>
  va_cast h.hx h.hb h.hK hP (wl_D h.hA σ) hS k 1 (by rw [wl_get hk, he]) rfl hin hd (fun H1 locs1 hP1 hD1 hS1 => kk H1 locs1 ls (by rw [hv, wl_set (σ' := pu σ k i.toNatClampNeg v) (by rw [he, pu_upd]) (fun k' hne => pu_ne k' hne) (fun _ _ => rfl)] at hP1; exact hP1) hS1 hl)
/-- an array of objects is read -/
theorem g_aald (h : Ok l x X cc own d) {k n t : Nat} {i : Int32} {C : String} {f : Nat → Nat} (hk : k < nX X) (he : ∀ row e, enc X k row e = .inl (X.2.2.1 t, n, .inr (.inr (.inr (.inr (fun j => some (X.2.1 (f j)))))))) (ht : (fty X)[t]? = some (X.2.2.1 t, .object C)) (hin : vp_in i n) (hd : decode cc pc = .ok (.aaload, 1)) (kk : G x X σ L (ra X (f i.toNatClampNeg) :: st) (pc + 1)) : G x X σ L (.int i :: ra X k :: st) pc := fun H locs ls hP hS hl =>
  va_aldq (f := fun j => some (X.2.1 (f j))) h.hx h.hb h.hK hP k t (by rw [wl_get hk, he]) ht hin hd (kk H locs ls hP hS hl)
/-- rows with a counter -/
theorem g_ialdN (h : Ok l x X cc own d) {k n j : Nat} {i : Int32} (hk : k < nX X) (he : ∀ row e, enc X k row e = .inl (X.2.2.1 0, n, .inl row)) (hi : i = nI j) (hj : j < n) (hn : n < 2 ^ 31) (hd : decode cc pc = .ok (.iaload, 1)) (kk : G x X σ L (.int (σ.1 k j) :: st) (pc + 1)) : G x X σ L (.int i :: ra X k :: st) pc := by
  subst hi
  exact g_iald h hk he (vp_in_nI hj hn) hd (by rw [nI_clamp (Nat.lt_trans hj hn)]; exact kk)
theorem g_iastN (h : Ok l x X cc own d) {k n j : Nat} {i v : Int32} (hk : k < nX X) (he : ∀ row e, enc X k row e = .inl (X.2.2.1 0, n, .inl row)) (hi : i = nI j) (hj : j < n) (hn : n < 2 ^ 31) (hd : decode cc pc = .ok (.iastore, 1)) (kk : G x X (pu σ k j v) L st (pc + 1)) : G x X σ L (.int v :: .int i :: ra X k :: st) pc := by
  subst hi
  exact g_iast h hk he (vp_in_nI hj hn) hd (by rw [nI_clamp (Nat.lt_trans hj hn)]; exact kk)
theorem g_caldN (h : Ok l x X cc own d) {k n j : Nat} {i : Int32} (hk : k < nX X) (he : ∀ row e, enc X k row e = .inl (X.2.2.1 1, n, .inl row)) (hi : i = nI j) (hj : j < n) (hn : n < 2 ^ 31) (hd : decode cc pc = .ok (.caload, 1)) (kk : G x X σ L (.int (σ.1 k j) :: st) (pc + 1)) : G x X σ L (.int i :: ra X k :: st) pc := by
  subst hi
  exact g_cald h hk he (vp_in_nI hj hn) hd (by rw [nI_clamp (Nat.lt_trans hj hn)]; exact kk)
theorem g_castN (h : Ok l x X cc own d) {k n j : Nat} {i v : Int32} (hk : k < nX X) (he : ∀ row e, enc X k row e = .inl (X.2.2.1 1, n, .inl row)) (hi : i = nI j) (hj : j < n) (hn : n < 2 ^ 31) (hv : vp_nar .char v = v) (hd : decode cc pc = .ok (.castore, 1)) (kk : G x X (pu σ k j v) L st (pc + 1)) : G x X σ L (.int v :: .int i :: ra X k :: st) pc := by
  subst hi
  exact g_cast h hk he (vp_in_nI hj hn) hv hd (by rw [nI_clamp (Nat.lt_trans hj hn)]; exact kk)
theorem g_aaldN (h : Ok l x X cc own d) {k n t j : Nat} {i : Int32} {C : String} {f : Nat → Nat} (hk : k < nX X) (he : ∀ row e, enc X k row e = .inl (X.2.2.1 t, n, .inr (.inr (.inr (.inr (fun j => some (X.2.1 (f j)))))))) (ht : (fty X)[t]? = some (X.2.2.1 t, .object C)) (hi : i = nI j) (hj : j < n) (hn : n < 2 ^ 31) (hd : decode cc pc = .ok (.aaload, 1)) (kk : G x X σ L (ra X (f j) :: st) (pc + 1)) : G x X σ L (.int i :: ra X k :: st) pc := by
  subst hi
  exact g_aald h hk he ht (vp_in_nI hj hn) hd (by rw [nI_clamp (Nat.lt_trans hj hn)]; exact kk)
theorem g_aaldO (h : Ok l x X cc own d) {s j : Nat} {i : Int32} (hs : s < 6) (hi : i = nI j) (hj : j < 6) (hd : decode cc pc = .ok (.aaload, 1)) (kk : G x X σ L (ra X (iO s j) :: st) (pc + 1)) : G x X σ L (.int i :: ra X (iOs s) :: st) pc := g_aaldN (f := iO s) h (iOs_lt hs) (enc_Os X hs) rfl hi hj (by decide) hd kk
theorem g_aaldL (h : Ok l x X cc own d) {s j : Nat} {i : Int32} (hs : s < 6) (hi : i = nI j) (hj : j < 8) (hd : decode cc pc = .ok (.aaload, 1)) (kk : G x X σ L (ra X (iL s j) :: st) (pc + 1)) : G x X σ L (.int i :: ra X (iLs s) :: st) pc := g_aaldN (f := iL s) h (iLs_lt hs) (enc_Ls X hs) rfl hi hj (by decide) hd kk
theorem g_ialdT (h : Ok l x X cc own d) {s i : Nat} {j : Int32} (hs : s < 6) (hi : i < 6) (hj : vp_in j 32) (hd : decode cc pc = .ok (.iaload, 1)) (kk : G x X σ L (.int (σ.1 (iT s i) j.toNatClampNeg) :: st) (pc + 1)) : G x X σ L (.int j :: ra X (iT s i) :: st) pc := g_iald h (iT_lt hs hi) (enc_T X hs hi) hj hd kk
theorem g_iastT (h : Ok l x X cc own d) {s i : Nat} {j v : Int32} (hs : s < 6) (hi : i < 6) (hj : vp_in j 32) (hd : decode cc pc = .ok (.iastore, 1)) (kk : G x X (pu σ (iT s i) j.toNatClampNeg v) L st (pc + 1)) : G x X σ L (.int v :: .int j :: ra X (iT s i) :: st) pc := g_iast h (iT_lt hs hi) (enc_T X hs hi) hj hd kk
theorem g_ialdSet (h : Ok l x X cc own d) {s j : Nat} {i : Int32} (hs : s < 6) (hi : i = nI j) (hj : j < 3) (hd : decode cc pc = .ok (.iaload, 1)) (kk : G x X σ L (.int (σ.1 (iSet s) j) :: st) (pc + 1)) : G x X σ L (.int i :: ra X (iSet s) :: st) pc := g_ialdN h (iSet_lt hs) (enc_Set X hs) hi hj (by decide) hd kk
theorem g_iincN (h : Ok l x X cc own d) {i j : Nat} (hd : decode cc pc = .ok (.iinc i 1, 3)) (hv : lk L i = some (.int (nI j))) (hn : i < xL x) (k : G x X σ (ls1 L i (.int (nI (j + 1)))) st (pc + 3)) : G x X σ L st pc := g_iinc h hd hv hn (by rw [show nI j + Int32.ofInt 1 = nI (j + 1) from nI_1 j]; exact k)
/-- a mark of the stack's top: its value may be told in other words -/
theorem g_top {a : Int32} (b : Int32) (e : a = b) (k : G x X σ L (.int b :: st) pc) : G x X σ L (.int a :: st) pc := e ▸ k
end RULES
def bi (b : Bool) : Int32 := if b = true then 1 else 0
theorem bi_0 (b : Bool) : bi b = 0 ↔ b = false := by cases b <;> decide
theorem bi_1 (b : Bool) : bi b = 1 ↔ b = true := by cases b <;> decide
theorem bi_n (b : Bool) : narrow .boolean (.int (bi b)) = .int (bi b) := by cases b <;> decide
end
section
/-! decode rows (printed by the kit's program) -/
theorem dX0_init_0 : decode cX0_init 0 = .ok (.aload_n 0, 1) := by decide +kernel
theorem dX0_init_1 : decode cX0_init 1 = .ok (.invokespecial 1, 3) := by decide +kernel
theorem dX0_init_4 : decode cX0_init 4 = .ok (.return_, 1) := by decide +kernel
theorem dX0_copyFrom_0 : decode cX0_copyFrom 0 = .ok (.aload_n 0, 1) := by decide +kernel
theorem dX0_copyFrom_1 : decode cX0_copyFrom 1 = .ok (.aload_n 1, 1) := by decide +kernel
theorem dX0_copyFrom_2 : decode cX0_copyFrom 2 = .ok (.getfield 7, 3) := by decide +kernel
theorem dX0_copyFrom_5 : decode cX0_copyFrom 5 = .ok (.putfield 7, 3) := by decide +kernel
theorem dX0_copyFrom_8 : decode cX0_copyFrom 8 = .ok (.aload_n 0, 1) := by decide +kernel
theorem dX0_copyFrom_9 : decode cX0_copyFrom 9 = .ok (.aload_n 1, 1) := by decide +kernel
theorem dX0_copyFrom_10 : decode cX0_copyFrom 10 = .ok (.getfield 13, 3) := by decide +kernel
theorem dX0_copyFrom_13 : decode cX0_copyFrom 13 = .ok (.putfield 13, 3) := by decide +kernel
theorem dX0_copyFrom_16 : decode cX0_copyFrom 16 = .ok (.aload_n 0, 1) := by decide +kernel
theorem dX0_copyFrom_17 : decode cX0_copyFrom 17 = .ok (.aload_n 1, 1) := by decide +kernel
theorem dX0_copyFrom_18 : decode cX0_copyFrom 18 = .ok (.getfield 16, 3) := by decide +kernel
theorem dX0_copyFrom_21 : decode cX0_copyFrom 21 = .ok (.putfield 16, 3) := by decide +kernel
theorem dX0_copyFrom_24 : decode cX0_copyFrom 24 = .ok (.return_, 1) := by decide +kernel
theorem dX1_init_0 : decode cX1_init 0 = .ok (.aload_n 0, 1) := by decide +kernel
theorem dX1_init_1 : decode cX1_init 1 = .ok (.invokespecial 3, 3) := by decide +kernel
theorem dX1_init_4 : decode cX1_init 4 = .ok (.aload_n 0, 1) := by decide +kernel
theorem dX1_init_5 : decode cX1_init 5 = .ok (.bipush 32, 2) := by decide +kernel
theorem dX1_init_7 : decode cX1_init 7 = .ok (.newarray .int, 2) := by decide +kernel
theorem dX1_init_9 : decode cX1_init 9 = .ok (.putfield 9, 3) := by decide +kernel
theorem dX1_init_12 : decode cX1_init 12 = .ok (.return_, 1) := by decide +kernel
theorem dX1_begin_0 : decode cX1_begin 0 = .ok (.aload_n 0, 1) := by decide +kernel
theorem dX1_begin_1 : decode cX1_begin 1 = .ok (.iload_n 1, 1) := by decide +kernel
theorem dX1_begin_2 : decode cX1_begin 2 = .ok (.putfield 15, 3) := by decide +kernel
theorem dX1_begin_5 : decode cX1_begin 5 = .ok (.aload_n 0, 1) := by decide +kernel
theorem dX1_begin_6 : decode cX1_begin 6 = .ok (.iload_n 2, 1) := by decide +kernel
theorem dX1_begin_7 : decode cX1_begin 7 = .ok (.putfield 19, 3) := by decide +kernel
theorem dX1_begin_10 : decode cX1_begin 10 = .ok (.aload_n 0, 1) := by decide +kernel
theorem dX1_begin_11 : decode cX1_begin 11 = .ok (.iload_n 3, 1) := by decide +kernel
theorem dX1_begin_12 : decode cX1_begin 12 = .ok (.putfield 22, 3) := by decide +kernel
theorem dX1_begin_15 : decode cX1_begin 15 = .ok (.aload_n 0, 1) := by decide +kernel
theorem dX1_begin_16 : decode cX1_begin 16 = .ok (.iconst (-1), 1) := by decide +kernel
theorem dX1_begin_17 : decode cX1_begin 17 = .ok (.putfield 25, 3) := by decide +kernel
theorem dX1_begin_20 : decode cX1_begin 20 = .ok (.aload_n 0, 1) := by decide +kernel
theorem dX1_begin_21 : decode cX1_begin 21 = .ok (.iconst (-1), 1) := by decide +kernel
theorem dX1_begin_22 : decode cX1_begin 22 = .ok (.putfield 28, 3) := by decide +kernel
theorem dX1_begin_25 : decode cX1_begin 25 = .ok (.aload_n 0, 1) := by decide +kernel
theorem dX1_begin_26 : decode cX1_begin 26 = .ok (.iconst 0, 1) := by decide +kernel
theorem dX1_begin_27 : decode cX1_begin 27 = .ok (.putfield 31, 3) := by decide +kernel
theorem dX1_begin_30 : decode cX1_begin 30 = .ok (.aload_n 0, 1) := by decide +kernel
theorem dX1_begin_31 : decode cX1_begin 31 = .ok (.iconst 0, 1) := by decide +kernel
theorem dX1_begin_32 : decode cX1_begin 32 = .ok (.putfield 34, 3) := by decide +kernel
theorem dX1_begin_35 : decode cX1_begin 35 = .ok (.aload_n 0, 1) := by decide +kernel
theorem dX1_begin_36 : decode cX1_begin 36 = .ok (.iconst 0, 1) := by decide +kernel
theorem dX1_begin_37 : decode cX1_begin 37 = .ok (.putfield 37, 3) := by decide +kernel
theorem dX1_begin_40 : decode cX1_begin 40 = .ok (.aload_n 0, 1) := by decide +kernel
theorem dX1_begin_41 : decode cX1_begin 41 = .ok (.iconst 0, 1) := by decide +kernel
theorem dX1_begin_42 : decode cX1_begin 42 = .ok (.putfield 40, 3) := by decide +kernel
theorem dX1_begin_45 : decode cX1_begin 45 = .ok (.iconst 0, 1) := by decide +kernel
theorem dX1_begin_46 : decode cX1_begin 46 = .ok (.istore 4, 2) := by decide +kernel
theorem dX1_begin_48 : decode cX1_begin 48 = .ok (.iload 4, 2) := by decide +kernel
theorem dX1_begin_50 : decode cX1_begin 50 = .ok (.aload_n 0, 1) := by decide +kernel
theorem dX1_begin_51 : decode cX1_begin 51 = .ok (.getfield 9, 3) := by decide +kernel
theorem dX1_begin_54 : decode cX1_begin 54 = .ok (.arraylength, 1) := by decide +kernel
theorem dX1_begin_55 : decode cX1_begin 55 = .ok (.if_icmp .ge 17, 3) := by decide +kernel
theorem dX1_begin_58 : decode cX1_begin 58 = .ok (.aload_n 0, 1) := by decide +kernel
theorem dX1_begin_59 : decode cX1_begin 59 = .ok (.getfield 9, 3) := by decide +kernel
theorem dX1_begin_62 : decode cX1_begin 62 = .ok (.iload 4, 2) := by decide +kernel
theorem dX1_begin_64 : decode cX1_begin 64 = .ok (.iconst 1, 1) := by decide +kernel
theorem dX1_begin_65 : decode cX1_begin 65 = .ok (.iastore, 1) := by decide +kernel
theorem dX1_begin_66 : decode cX1_begin 66 = .ok (.iinc 4 1, 3) := by decide +kernel
theorem dX1_begin_69 : decode cX1_begin 69 = .ok (.goto (-21), 3) := by decide +kernel
theorem dX1_begin_72 : decode cX1_begin 72 = .ok (.return_, 1) := by decide +kernel
theorem dX1_copyFrom_0 : decode cX1_copyFrom 0 = .ok (.aload_n 0, 1) := by decide +kernel
theorem dX1_copyFrom_1 : decode cX1_copyFrom 1 = .ok (.aload_n 1, 1) := by decide +kernel
theorem dX1_copyFrom_2 : decode cX1_copyFrom 2 = .ok (.getfield 15, 3) := by decide +kernel
theorem dX1_copyFrom_5 : decode cX1_copyFrom 5 = .ok (.putfield 15, 3) := by decide +kernel
theorem dX1_copyFrom_8 : decode cX1_copyFrom 8 = .ok (.aload_n 0, 1) := by decide +kernel
theorem dX1_copyFrom_9 : decode cX1_copyFrom 9 = .ok (.aload_n 1, 1) := by decide +kernel
theorem dX1_copyFrom_10 : decode cX1_copyFrom 10 = .ok (.getfield 19, 3) := by decide +kernel
theorem dX1_copyFrom_13 : decode cX1_copyFrom 13 = .ok (.putfield 19, 3) := by decide +kernel
theorem dX1_copyFrom_16 : decode cX1_copyFrom 16 = .ok (.aload_n 0, 1) := by decide +kernel
theorem dX1_copyFrom_17 : decode cX1_copyFrom 17 = .ok (.aload_n 1, 1) := by decide +kernel
theorem dX1_copyFrom_18 : decode cX1_copyFrom 18 = .ok (.getfield 22, 3) := by decide +kernel
theorem dX1_copyFrom_21 : decode cX1_copyFrom 21 = .ok (.putfield 22, 3) := by decide +kernel
theorem dX1_copyFrom_24 : decode cX1_copyFrom 24 = .ok (.aload_n 0, 1) := by decide +kernel
theorem dX1_copyFrom_25 : decode cX1_copyFrom 25 = .ok (.aload_n 1, 1) := by decide +kernel
theorem dX1_copyFrom_26 : decode cX1_copyFrom 26 = .ok (.getfield 25, 3) := by decide +kernel
theorem dX1_copyFrom_29 : decode cX1_copyFrom 29 = .ok (.putfield 25, 3) := by decide +kernel
theorem dX1_copyFrom_32 : decode cX1_copyFrom 32 = .ok (.aload_n 0, 1) := by decide +kernel
theorem dX1_copyFrom_33 : decode cX1_copyFrom 33 = .ok (.aload_n 1, 1) := by decide +kernel
theorem dX1_copyFrom_34 : decode cX1_copyFrom 34 = .ok (.getfield 28, 3) := by decide +kernel
theorem dX1_copyFrom_37 : decode cX1_copyFrom 37 = .ok (.putfield 28, 3) := by decide +kernel
theorem dX1_copyFrom_40 : decode cX1_copyFrom 40 = .ok (.aload_n 0, 1) := by decide +kernel
theorem dX1_copyFrom_41 : decode cX1_copyFrom 41 = .ok (.aload_n 1, 1) := by decide +kernel
theorem dX1_copyFrom_42 : decode cX1_copyFrom 42 = .ok (.getfield 31, 3) := by decide +kernel
theorem dX1_copyFrom_45 : decode cX1_copyFrom 45 = .ok (.putfield 31, 3) := by decide +kernel
theorem dX1_copyFrom_48 : decode cX1_copyFrom 48 = .ok (.aload_n 0, 1) := by decide +kernel
theorem dX1_copyFrom_49 : decode cX1_copyFrom 49 = .ok (.aload_n 1, 1) := by decide +kernel
theorem dX1_copyFrom_50 : decode cX1_copyFrom 50 = .ok (.getfield 34, 3) := by decide +kernel
theorem dX1_copyFrom_53 : decode cX1_copyFrom 53 = .ok (.putfield 34, 3) := by decide +kernel
theorem dX1_copyFrom_56 : decode cX1_copyFrom 56 = .ok (.aload_n 0, 1) := by decide +kernel
theorem dX1_copyFrom_57 : decode cX1_copyFrom 57 = .ok (.aload_n 1, 1) := by decide +kernel
theorem dX1_copyFrom_58 : decode cX1_copyFrom 58 = .ok (.getfield 37, 3) := by decide +kernel
theorem dX1_copyFrom_61 : decode cX1_copyFrom 61 = .ok (.putfield 37, 3) := by decide +kernel
theorem dX1_copyFrom_64 : decode cX1_copyFrom 64 = .ok (.aload_n 0, 1) := by decide +kernel
theorem dX1_copyFrom_65 : decode cX1_copyFrom 65 = .ok (.aload_n 1, 1) := by decide +kernel
theorem dX1_copyFrom_66 : decode cX1_copyFrom 66 = .ok (.getfield 40, 3) := by decide +kernel
theorem dX1_copyFrom_69 : decode cX1_copyFrom 69 = .ok (.putfield 40, 3) := by decide +kernel
theorem dX1_copyFrom_72 : decode cX1_copyFrom 72 = .ok (.aload_n 1, 1) := by decide +kernel
theorem dX1_copyFrom_73 : decode cX1_copyFrom 73 = .ok (.getfield 9, 3) := by decide +kernel
theorem dX1_copyFrom_76 : decode cX1_copyFrom 76 = .ok (.iconst 0, 1) := by decide +kernel
theorem dX1_copyFrom_77 : decode cX1_copyFrom 77 = .ok (.aload_n 0, 1) := by decide +kernel
theorem dX1_copyFrom_78 : decode cX1_copyFrom 78 = .ok (.getfield 9, 3) := by decide +kernel
theorem dX1_copyFrom_81 : decode cX1_copyFrom 81 = .ok (.iconst 0, 1) := by decide +kernel
theorem dX1_copyFrom_82 : decode cX1_copyFrom 82 = .ok (.bipush 32, 2) := by decide +kernel
theorem dX1_copyFrom_84 : decode cX1_copyFrom 84 = .ok (.invokestatic 43, 3) := by decide +kernel
theorem dX1_copyFrom_87 : decode cX1_copyFrom 87 = .ok (.return_, 1) := by decide +kernel
theorem dX1_hasSeat_0 : decode cX1_hasSeat 0 = .ok (.aload_n 0, 1) := by decide +kernel
theorem dX1_hasSeat_1 : decode cX1_hasSeat 1 = .ok (.getfield 25, 3) := by decide +kernel
theorem dX1_hasSeat_4 : decode cX1_hasSeat 4 = .ok (.iconst (-1), 1) := by decide +kernel
theorem dX1_hasSeat_5 : decode cX1_hasSeat 5 = .ok (.if_icmp .eq 7, 3) := by decide +kernel
theorem dX1_hasSeat_8 : decode cX1_hasSeat 8 = .ok (.iconst 1, 1) := by decide +kernel
theorem dX1_hasSeat_9 : decode cX1_hasSeat 9 = .ok (.goto 4, 3) := by decide +kernel
theorem dX1_hasSeat_12 : decode cX1_hasSeat 12 = .ok (.iconst 0, 1) := by decide +kernel
theorem dX1_hasSeat_13 : decode cX1_hasSeat 13 = .ok (.ireturn, 1) := by decide +kernel
theorem dX1_isRuined_0 : decode cX1_isRuined 0 = .ok (.aload_n 0, 1) := by decide +kernel
theorem dX1_isRuined_1 : decode cX1_isRuined 1 = .ok (.getfield 22, 3) := by decide +kernel
theorem dX1_isRuined_4 : decode cX1_isRuined 4 = .ok (.ifCond .ne 7, 3) := by decide +kernel
theorem dX1_isRuined_7 : decode cX1_isRuined 7 = .ok (.iconst 1, 1) := by decide +kernel
theorem dX1_isRuined_8 : decode cX1_isRuined 8 = .ok (.goto 4, 3) := by decide +kernel
theorem dX1_isRuined_11 : decode cX1_isRuined 11 = .ok (.iconst 0, 1) := by decide +kernel
theorem dX1_isRuined_12 : decode cX1_isRuined 12 = .ok (.ireturn, 1) := by decide +kernel
theorem dX1_takesPart_0 : decode cX1_takesPart 0 = .ok (.aload_n 0, 1) := by decide +kernel
theorem dX1_takesPart_1 : decode cX1_takesPart 1 = .ok (.invokevirtual 49, 3) := by decide +kernel
theorem dX1_takesPart_4 : decode cX1_takesPart 4 = .ok (.ifCond .eq 14, 3) := by decide +kernel
theorem dX1_takesPart_7 : decode cX1_takesPart 7 = .ok (.aload_n 0, 1) := by decide +kernel
theorem dX1_takesPart_8 : decode cX1_takesPart 8 = .ok (.invokevirtual 53, 3) := by decide +kernel
theorem dX1_takesPart_11 : decode cX1_takesPart 11 = .ok (.ifCond .ne 7, 3) := by decide +kernel
theorem dX1_takesPart_14 : decode cX1_takesPart 14 = .ok (.iconst 1, 1) := by decide +kernel
theorem dX1_takesPart_15 : decode cX1_takesPart 15 = .ok (.goto 4, 3) := by decide +kernel
theorem dX1_takesPart_18 : decode cX1_takesPart 18 = .ok (.iconst 0, 1) := by decide +kernel
theorem dX1_takesPart_19 : decode cX1_takesPart 19 = .ok (.ireturn, 1) := by decide +kernel
theorem dX1_hasTable_0 : decode cX1_hasTable 0 = .ok (.aload_n 0, 1) := by decide +kernel
theorem dX1_hasTable_1 : decode cX1_hasTable 1 = .ok (.getfield 15, 3) := by decide +kernel
theorem dX1_hasTable_4 : decode cX1_hasTable 4 = .ok (.iconst 1, 1) := by decide +kernel
theorem dX1_hasTable_5 : decode cX1_hasTable 5 = .ok (.if_icmp .lt 15, 3) := by decide +kernel
theorem dX1_hasTable_8 : decode cX1_hasTable 8 = .ok (.aload_n 0, 1) := by decide +kernel
theorem dX1_hasTable_9 : decode cX1_hasTable 9 = .ok (.getfield 15, 3) := by decide +kernel
theorem dX1_hasTable_12 : decode cX1_hasTable 12 = .ok (.iconst 3, 1) := by decide +kernel
theorem dX1_hasTable_13 : decode cX1_hasTable 13 = .ok (.if_icmp .gt 7, 3) := by decide +kernel
theorem dX1_hasTable_16 : decode cX1_hasTable 16 = .ok (.iconst 1, 1) := by decide +kernel
theorem dX1_hasTable_17 : decode cX1_hasTable 17 = .ok (.goto 4, 3) := by decide +kernel
theorem dX1_hasTable_20 : decode cX1_hasTable 20 = .ok (.iconst 0, 1) := by decide +kernel
theorem dX1_hasTable_21 : decode cX1_hasTable 21 = .ok (.ireturn, 1) := by decide +kernel
theorem dX1_tableSize_0 : decode cX1_tableSize 0 = .ok (.aload_n 0, 1) := by decide +kernel
theorem dX1_tableSize_1 : decode cX1_tableSize 1 = .ok (.invokevirtual 56, 3) := by decide +kernel
theorem dX1_tableSize_4 : decode cX1_tableSize 4 = .ok (.ifCond .eq 12, 3) := by decide +kernel
theorem dX1_tableSize_7 : decode cX1_tableSize 7 = .ok (.iconst 1, 1) := by decide +kernel
theorem dX1_tableSize_8 : decode cX1_tableSize 8 = .ok (.aload_n 0, 1) := by decide +kernel
theorem dX1_tableSize_9 : decode cX1_tableSize 9 = .ok (.getfield 19, 3) := by decide +kernel
theorem dX1_tableSize_12 : decode cX1_tableSize 12 = .ok (.ishl, 1) := by decide +kernel
theorem dX1_tableSize_13 : decode cX1_tableSize 13 = .ok (.goto 4, 3) := by decide +kernel
theorem dX1_tableSize_16 : decode cX1_tableSize 16 = .ok (.iconst 0, 1) := by decide +kernel
theorem dX1_tableSize_17 : decode cX1_tableSize 17 = .ok (.ireturn, 1) := by decide +kernel
theorem dX1_slotOf_0 : decode cX1_slotOf 0 = .ok (.iconst 1, 1) := by decide +kernel
theorem dX1_slotOf_1 : decode cX1_slotOf 1 = .ok (.aload_n 0, 1) := by decide +kernel
theorem dX1_slotOf_2 : decode cX1_slotOf 2 = .ok (.getfield 19, 3) := by decide +kernel
theorem dX1_slotOf_5 : decode cX1_slotOf 5 = .ok (.ishl, 1) := by decide +kernel
theorem dX1_slotOf_6 : decode cX1_slotOf 6 = .ok (.iconst 1, 1) := by decide +kernel
theorem dX1_slotOf_7 : decode cX1_slotOf 7 = .ok (.isub, 1) := by decide +kernel
theorem dX1_slotOf_8 : decode cX1_slotOf 8 = .ok (.istore_n 3, 1) := by decide +kernel
theorem dX1_slotOf_9 : decode cX1_slotOf 9 = .ok (.aload_n 0, 1) := by decide +kernel
theorem dX1_slotOf_10 : decode cX1_slotOf 10 = .ok (.getfield 15, 3) := by decide +kernel
theorem dX1_slotOf_13 : decode cX1_slotOf 13 = .ok (.iconst 1, 1) := by decide +kernel
theorem dX1_slotOf_14 : decode cX1_slotOf 14 = .ok (.if_icmp .ne 7, 3) := by decide +kernel
theorem dX1_slotOf_17 : decode cX1_slotOf 17 = .ok (.iload_n 1, 1) := by decide +kernel
theorem dX1_slotOf_18 : decode cX1_slotOf 18 = .ok (.iload_n 3, 1) := by decide +kernel
theorem dX1_slotOf_19 : decode cX1_slotOf 19 = .ok (.iand, 1) := by decide +kernel
theorem dX1_slotOf_20 : decode cX1_slotOf 20 = .ok (.ireturn, 1) := by decide +kernel
theorem dX1_slotOf_21 : decode cX1_slotOf 21 = .ok (.aload_n 0, 1) := by decide +kernel
theorem dX1_slotOf_22 : decode cX1_slotOf 22 = .ok (.getfield 15, 3) := by decide +kernel
theorem dX1_slotOf_25 : decode cX1_slotOf 25 = .ok (.iconst 2, 1) := by decide +kernel
theorem dX1_slotOf_26 : decode cX1_slotOf 26 = .ok (.if_icmp .ne 7, 3) := by decide +kernel
theorem dX1_slotOf_29 : decode cX1_slotOf 29 = .ok (.iload_n 2, 1) := by decide +kernel
theorem dX1_slotOf_30 : decode cX1_slotOf 30 = .ok (.goto 6, 3) := by decide +kernel
theorem dX1_slotOf_33 : decode cX1_slotOf 33 = .ok (.iload_n 1, 1) := by decide +kernel
theorem dX1_slotOf_34 : decode cX1_slotOf 34 = .ok (.iload_n 2, 1) := by decide +kernel
theorem dX1_slotOf_35 : decode cX1_slotOf 35 = .ok (.ixor, 1) := by decide +kernel
theorem dX1_slotOf_36 : decode cX1_slotOf 36 = .ok (.iload_n 3, 1) := by decide +kernel
theorem dX1_slotOf_37 : decode cX1_slotOf 37 = .ok (.iand, 1) := by decide +kernel
theorem dX1_slotOf_38 : decode cX1_slotOf 38 = .ok (.ireturn, 1) := by decide +kernel
theorem dX1_wordOfItsOwn_0 : decode cX1_wordOfItsOwn 0 = .ok (.aload_n 0, 1) := by decide +kernel
theorem dX1_wordOfItsOwn_1 : decode cX1_wordOfItsOwn 1 = .ok (.invokevirtual 56, 3) := by decide +kernel
theorem dX1_wordOfItsOwn_4 : decode cX1_wordOfItsOwn 4 = .ok (.ifCond .ne 8, 3) := by decide +kernel
theorem dX1_wordOfItsOwn_7 : decode cX1_wordOfItsOwn 7 = .ok (.aload_n 0, 1) := by decide +kernel
theorem dX1_wordOfItsOwn_8 : decode cX1_wordOfItsOwn 8 = .ok (.getfield 19, 3) := by decide +kernel
theorem dX1_wordOfItsOwn_11 : decode cX1_wordOfItsOwn 11 = .ok (.ireturn, 1) := by decide +kernel
theorem dX1_wordOfItsOwn_12 : decode cX1_wordOfItsOwn 12 = .ok (.aload_n 0, 1) := by decide +kernel
theorem dX1_wordOfItsOwn_13 : decode cX1_wordOfItsOwn 13 = .ok (.getfield 9, 3) := by decide +kernel
theorem dX1_wordOfItsOwn_16 : decode cX1_wordOfItsOwn 16 = .ok (.aload_n 0, 1) := by decide +kernel
theorem dX1_wordOfItsOwn_17 : decode cX1_wordOfItsOwn 17 = .ok (.iload_n 1, 1) := by decide +kernel
theorem dX1_wordOfItsOwn_18 : decode cX1_wordOfItsOwn 18 = .ok (.iload_n 2, 1) := by decide +kernel
theorem dX1_wordOfItsOwn_19 : decode cX1_wordOfItsOwn 19 = .ok (.invokevirtual 59, 3) := by decide +kernel
theorem dX1_wordOfItsOwn_22 : decode cX1_wordOfItsOwn 22 = .ok (.iaload, 1) := by decide +kernel
theorem dX1_wordOfItsOwn_23 : decode cX1_wordOfItsOwn 23 = .ok (.iconst 2, 1) := by decide +kernel
theorem dX1_wordOfItsOwn_24 : decode cX1_wordOfItsOwn 24 = .ok (.if_icmp .lt 7, 3) := by decide +kernel
theorem dX1_wordOfItsOwn_27 : decode cX1_wordOfItsOwn 27 = .ok (.iconst 1, 1) := by decide +kernel
theorem dX1_wordOfItsOwn_28 : decode cX1_wordOfItsOwn 28 = .ok (.goto 4, 3) := by decide +kernel
theorem dX1_wordOfItsOwn_31 : decode cX1_wordOfItsOwn 31 = .ok (.iconst 0, 1) := by decide +kernel
theorem dX1_wordOfItsOwn_32 : decode cX1_wordOfItsOwn 32 = .ok (.ireturn, 1) := by decide +kernel
theorem dX1_stakeNow_0 : decode cX1_stakeNow 0 = .ok (.aload_n 0, 1) := by decide +kernel
theorem dX1_stakeNow_1 : decode cX1_stakeNow 1 = .ok (.invokevirtual 63, 3) := by decide +kernel
theorem dX1_stakeNow_4 : decode cX1_stakeNow 4 = .ok (.ifCond .ne 5, 3) := by decide +kernel
theorem dX1_stakeNow_7 : decode cX1_stakeNow 7 = .ok (.iconst 0, 1) := by decide +kernel
theorem dX1_stakeNow_8 : decode cX1_stakeNow 8 = .ok (.ireturn, 1) := by decide +kernel
theorem dX1_stakeNow_9 : decode cX1_stakeNow 9 = .ok (.iconst 0, 1) := by decide +kernel
theorem dX1_stakeNow_10 : decode cX1_stakeNow 10 = .ok (.istore 4, 2) := by decide +kernel
theorem dX1_stakeNow_12 : decode cX1_stakeNow 12 = .ok (.aload_n 0, 1) := by decide +kernel
theorem dX1_stakeNow_13 : decode cX1_stakeNow 13 = .ok (.invokevirtual 56, 3) := by decide +kernel
theorem dX1_stakeNow_16 : decode cX1_stakeNow 16 = .ok (.ifCond .eq 34, 3) := by decide +kernel
theorem dX1_stakeNow_19 : decode cX1_stakeNow 19 = .ok (.aload_n 0, 1) := by decide +kernel
theorem dX1_stakeNow_20 : decode cX1_stakeNow 20 = .ok (.getfield 9, 3) := by decide +kernel
theorem dX1_stakeNow_23 : decode cX1_stakeNow 23 = .ok (.aload_n 0, 1) := by decide +kernel
theorem dX1_stakeNow_24 : decode cX1_stakeNow 24 = .ok (.iload_n 2, 1) := by decide +kernel
theorem dX1_stakeNow_25 : decode cX1_stakeNow 25 = .ok (.iload_n 3, 1) := by decide +kernel
theorem dX1_stakeNow_26 : decode cX1_stakeNow 26 = .ok (.invokevirtual 59, 3) := by decide +kernel
theorem dX1_stakeNow_29 : decode cX1_stakeNow 29 = .ok (.iaload, 1) := by decide +kernel
theorem dX1_stakeNow_30 : decode cX1_stakeNow 30 = .ok (.istore 5, 2) := by decide +kernel
theorem dX1_stakeNow_32 : decode cX1_stakeNow 32 = .ok (.iload 5, 2) := by decide +kernel
theorem dX1_stakeNow_34 : decode cX1_stakeNow 34 = .ok (.ifCond .eq 9, 3) := by decide +kernel
theorem dX1_stakeNow_37 : decode cX1_stakeNow 37 = .ok (.iload 5, 2) := by decide +kernel
theorem dX1_stakeNow_39 : decode cX1_stakeNow 39 = .ok (.iconst 3, 1) := by decide +kernel
theorem dX1_stakeNow_40 : decode cX1_stakeNow 40 = .ok (.if_icmp .ne 7, 3) := by decide +kernel
theorem dX1_stakeNow_43 : decode cX1_stakeNow 43 = .ok (.iconst 1, 1) := by decide +kernel
theorem dX1_stakeNow_44 : decode cX1_stakeNow 44 = .ok (.goto 4, 3) := by decide +kernel
theorem dX1_stakeNow_47 : decode cX1_stakeNow 47 = .ok (.iconst 0, 1) := by decide +kernel
theorem dX1_stakeNow_48 : decode cX1_stakeNow 48 = .ok (.istore 4, 2) := by decide +kernel
theorem dX1_stakeNow_50 : decode cX1_stakeNow 50 = .ok (.aload_n 0, 1) := by decide +kernel
theorem dX1_stakeNow_51 : decode cX1_stakeNow 51 = .ok (.getfield 22, 3) := by decide +kernel
theorem dX1_stakeNow_54 : decode cX1_stakeNow 54 = .ok (.iload 4, 2) := by decide +kernel
theorem dX1_stakeNow_56 : decode cX1_stakeNow 56 = .ok (.ifCond .eq 9, 3) := by decide +kernel
theorem dX1_stakeNow_59 : decode cX1_stakeNow 59 = .ok (.iconst 2, 1) := by decide +kernel
theorem dX1_stakeNow_60 : decode cX1_stakeNow 60 = .ok (.iload_n 1, 1) := by decide +kernel
theorem dX1_stakeNow_61 : decode cX1_stakeNow 61 = .ok (.imul, 1) := by decide +kernel
theorem dX1_stakeNow_62 : decode cX1_stakeNow 62 = .ok (.goto 4, 3) := by decide +kernel
theorem dX1_stakeNow_65 : decode cX1_stakeNow 65 = .ok (.iload_n 1, 1) := by decide +kernel
theorem dX1_stakeNow_66 : decode cX1_stakeNow 66 = .ok (.invokestatic 66, 3) := by decide +kernel
theorem dX1_stakeNow_69 : decode cX1_stakeNow 69 = .ok (.ireturn, 1) := by decide +kernel
theorem dX1_learn_0 : decode cX1_learn 0 = .ok (.aload_n 0, 1) := by decide +kernel
theorem dX1_learn_1 : decode cX1_learn 1 = .ok (.iload_n 1, 1) := by decide +kernel
theorem dX1_learn_2 : decode cX1_learn 2 = .ok (.iload_n 3, 1) := by decide +kernel
theorem dX1_learn_3 : decode cX1_learn 3 = .ok (.invokevirtual 59, 3) := by decide +kernel
theorem dX1_learn_6 : decode cX1_learn 6 = .ok (.istore 4, 2) := by decide +kernel
theorem dX1_learn_8 : decode cX1_learn 8 = .ok (.aload_n 0, 1) := by decide +kernel
theorem dX1_learn_9 : decode cX1_learn 9 = .ok (.getfield 9, 3) := by decide +kernel
theorem dX1_learn_12 : decode cX1_learn 12 = .ok (.iload 4, 2) := by decide +kernel
theorem dX1_learn_14 : decode cX1_learn 14 = .ok (.iload_n 2, 1) := by decide +kernel
theorem dX1_learn_15 : decode cX1_learn 15 = .ok (.iconst 1, 1) := by decide +kernel
theorem dX1_learn_16 : decode cX1_learn 16 = .ok (.if_icmp .ne 19, 3) := by decide +kernel
theorem dX1_learn_19 : decode cX1_learn 19 = .ok (.iconst 3, 1) := by decide +kernel
theorem dX1_learn_20 : decode cX1_learn 20 = .ok (.aload_n 0, 1) := by decide +kernel
theorem dX1_learn_21 : decode cX1_learn 21 = .ok (.getfield 9, 3) := by decide +kernel
theorem dX1_learn_24 : decode cX1_learn 24 = .ok (.iload 4, 2) := by decide +kernel
theorem dX1_learn_26 : decode cX1_learn 26 = .ok (.iaload, 1) := by decide +kernel
theorem dX1_learn_27 : decode cX1_learn 27 = .ok (.iconst 1, 1) := by decide +kernel
theorem dX1_learn_28 : decode cX1_learn 28 = .ok (.iadd, 1) := by decide +kernel
theorem dX1_learn_29 : decode cX1_learn 29 = .ok (.invokestatic 66, 3) := by decide +kernel
theorem dX1_learn_32 : decode cX1_learn 32 = .ok (.goto 16, 3) := by decide +kernel
theorem dX1_learn_35 : decode cX1_learn 35 = .ok (.iconst 0, 1) := by decide +kernel
theorem dX1_learn_36 : decode cX1_learn 36 = .ok (.aload_n 0, 1) := by decide +kernel
theorem dX1_learn_37 : decode cX1_learn 37 = .ok (.getfield 9, 3) := by decide +kernel
theorem dX1_learn_40 : decode cX1_learn 40 = .ok (.iload 4, 2) := by decide +kernel
theorem dX1_learn_42 : decode cX1_learn 42 = .ok (.iaload, 1) := by decide +kernel
theorem dX1_learn_43 : decode cX1_learn 43 = .ok (.iconst 1, 1) := by decide +kernel
theorem dX1_learn_44 : decode cX1_learn 44 = .ok (.isub, 1) := by decide +kernel
theorem dX1_learn_45 : decode cX1_learn 45 = .ok (.invokestatic 71, 3) := by decide +kernel
theorem dX1_learn_48 : decode cX1_learn 48 = .ok (.iastore, 1) := by decide +kernel
theorem dX1_learn_49 : decode cX1_learn 49 = .ok (.return_, 1) := by decide +kernel
theorem dX1_note_0 : decode cX1_note 0 = .ok (.iload_n 1, 1) := by decide +kernel
theorem dX1_note_1 : decode cX1_note 1 = .ok (.ifCond .eq 16, 3) := by decide +kernel
theorem dX1_note_4 : decode cX1_note 4 = .ok (.aload_n 0, 1) := by decide +kernel
theorem dX1_note_5 : decode cX1_note 5 = .ok (.dup, 1) := by decide +kernel
theorem dX1_note_6 : decode cX1_note 6 = .ok (.getfield 31, 3) := by decide +kernel
theorem dX1_note_9 : decode cX1_note 9 = .ok (.iconst 1, 1) := by decide +kernel
theorem dX1_note_10 : decode cX1_note 10 = .ok (.iadd, 1) := by decide +kernel
theorem dX1_note_11 : decode cX1_note 11 = .ok (.putfield 31, 3) := by decide +kernel
theorem dX1_note_14 : decode cX1_note 14 = .ok (.goto 13, 3) := by decide +kernel
theorem dX1_note_17 : decode cX1_note 17 = .ok (.aload_n 0, 1) := by decide +kernel
theorem dX1_note_18 : decode cX1_note 18 = .ok (.dup, 1) := by decide +kernel
theorem dX1_note_19 : decode cX1_note 19 = .ok (.getfield 34, 3) := by decide +kernel
theorem dX1_note_22 : decode cX1_note 22 = .ok (.iconst 1, 1) := by decide +kernel
theorem dX1_note_23 : decode cX1_note 23 = .ok (.iadd, 1) := by decide +kernel
theorem dX1_note_24 : decode cX1_note 24 = .ok (.putfield 34, 3) := by decide +kernel
theorem dX1_note_27 : decode cX1_note 27 = .ok (.aload_n 0, 1) := by decide +kernel
theorem dX1_note_28 : decode cX1_note 28 = .ok (.iconst 2, 1) := by decide +kernel
theorem dX1_note_29 : decode cX1_note 29 = .ok (.aload_n 0, 1) := by decide +kernel
theorem dX1_note_30 : decode cX1_note 30 = .ok (.getfield 37, 3) := by decide +kernel
theorem dX1_note_33 : decode cX1_note 33 = .ok (.imul, 1) := by decide +kernel
theorem dX1_note_34 : decode cX1_note 34 = .ok (.iload_n 1, 1) := by decide +kernel
theorem dX1_note_35 : decode cX1_note 35 = .ok (.ifCond .eq 7, 3) := by decide +kernel
theorem dX1_note_38 : decode cX1_note 38 = .ok (.iconst 1, 1) := by decide +kernel
theorem dX1_note_39 : decode cX1_note 39 = .ok (.goto 4, 3) := by decide +kernel
theorem dX1_note_42 : decode cX1_note 42 = .ok (.iconst 0, 1) := by decide +kernel
theorem dX1_note_43 : decode cX1_note 43 = .ok (.iadd, 1) := by decide +kernel
theorem dX1_note_44 : decode cX1_note 44 = .ok (.ldc 74, 2) := by decide +kernel
theorem dX1_note_46 : decode cX1_note 46 = .ok (.iand, 1) := by decide +kernel
theorem dX1_note_47 : decode cX1_note 47 = .ok (.putfield 37, 3) := by decide +kernel
theorem dX1_note_50 : decode cX1_note 50 = .ok (.aload_n 0, 1) := by decide +kernel
theorem dX1_note_51 : decode cX1_note 51 = .ok (.invokevirtual 53, 3) := by decide +kernel
theorem dX1_note_54 : decode cX1_note 54 = .ok (.ifCond .eq 13, 3) := by decide +kernel
theorem dX1_note_57 : decode cX1_note 57 = .ok (.aload_n 0, 1) := by decide +kernel
theorem dX1_note_58 : decode cX1_note 58 = .ok (.dup, 1) := by decide +kernel
theorem dX1_note_59 : decode cX1_note 59 = .ok (.getfield 40, 3) := by decide +kernel
theorem dX1_note_62 : decode cX1_note 62 = .ok (.iconst 1, 1) := by decide +kernel
theorem dX1_note_63 : decode cX1_note 63 = .ok (.iadd, 1) := by decide +kernel
theorem dX1_note_64 : decode cX1_note 64 = .ok (.putfield 40, 3) := by decide +kernel
theorem dX1_note_67 : decode cX1_note 67 = .ok (.return_, 1) := by decide +kernel
theorem dX2_init_0 : decode cX2_init 0 = .ok (.aload_n 0, 1) := by decide +kernel
theorem dX2_init_1 : decode cX2_init 1 = .ok (.invokespecial 3, 3) := by decide +kernel
theorem dX2_init_4 : decode cX2_init 4 = .ok (.aload_n 0, 1) := by decide +kernel
theorem dX2_init_5 : decode cX2_init 5 = .ok (.iconst 4, 1) := by decide +kernel
theorem dX2_init_6 : decode cX2_init 6 = .ok (.anewarray 9, 3) := by decide +kernel
theorem dX2_init_9 : decode cX2_init 9 = .ok (.putfield 11, 3) := by decide +kernel
theorem dX2_init_12 : decode cX2_init 12 = .ok (.iconst 0, 1) := by decide +kernel
theorem dX2_init_13 : decode cX2_init 13 = .ok (.istore_n 1, 1) := by decide +kernel
theorem dX2_init_14 : decode cX2_init 14 = .ok (.iload_n 1, 1) := by decide +kernel
theorem dX2_init_15 : decode cX2_init 15 = .ok (.iconst 4, 1) := by decide +kernel
theorem dX2_init_16 : decode cX2_init 16 = .ok (.if_icmp .ge 22, 3) := by decide +kernel
theorem dX2_init_19 : decode cX2_init 19 = .ok (.aload_n 0, 1) := by decide +kernel
theorem dX2_init_20 : decode cX2_init 20 = .ok (.getfield 11, 3) := by decide +kernel
theorem dX2_init_23 : decode cX2_init 23 = .ok (.iload_n 1, 1) := by decide +kernel
theorem dX2_init_24 : decode cX2_init 24 = .ok (.new 9, 3) := by decide +kernel
theorem dX2_init_27 : decode cX2_init 27 = .ok (.dup, 1) := by decide +kernel
theorem dX2_init_28 : decode cX2_init 28 = .ok (.invokespecial 17, 3) := by decide +kernel
theorem dX2_init_31 : decode cX2_init 31 = .ok (.aastore, 1) := by decide +kernel
theorem dX2_init_32 : decode cX2_init 32 = .ok (.iinc 1 1, 3) := by decide +kernel
theorem dX2_init_35 : decode cX2_init 35 = .ok (.goto (-21), 3) := by decide +kernel
theorem dX2_init_38 : decode cX2_init 38 = .ok (.return_, 1) := by decide +kernel
theorem dX2_keep_0 : decode cX2_keep 0 = .ok (.aload_n 0, 1) := by decide +kernel
theorem dX2_keep_1 : decode cX2_keep 1 = .ok (.getfield 11, 3) := by decide +kernel
theorem dX2_keep_4 : decode cX2_keep 4 = .ok (.aload_n 0, 1) := by decide +kernel
theorem dX2_keep_5 : decode cX2_keep 5 = .ok (.getfield 18, 3) := by decide +kernel
theorem dX2_keep_8 : decode cX2_keep 8 = .ok (.aload_n 0, 1) := by decide +kernel
theorem dX2_keep_9 : decode cX2_keep 9 = .ok (.getfield 22, 3) := by decide +kernel
theorem dX2_keep_12 : decode cX2_keep 12 = .ok (.iadd, 1) := by decide +kernel
theorem dX2_keep_13 : decode cX2_keep 13 = .ok (.iconst 4, 1) := by decide +kernel
theorem dX2_keep_14 : decode cX2_keep 14 = .ok (.irem, 1) := by decide +kernel
theorem dX2_keep_15 : decode cX2_keep 15 = .ok (.aaload, 1) := by decide +kernel
theorem dX2_keep_16 : decode cX2_keep 16 = .ok (.aload_n 1, 1) := by decide +kernel
theorem dX2_keep_17 : decode cX2_keep 17 = .ok (.invokevirtual 25, 3) := by decide +kernel
theorem dX2_keep_20 : decode cX2_keep 20 = .ok (.aload_n 0, 1) := by decide +kernel
theorem dX2_keep_21 : decode cX2_keep 21 = .ok (.getfield 22, 3) := by decide +kernel
theorem dX2_keep_24 : decode cX2_keep 24 = .ok (.iconst 4, 1) := by decide +kernel
theorem dX2_keep_25 : decode cX2_keep 25 = .ok (.if_icmp .ge 16, 3) := by decide +kernel
theorem dX2_keep_28 : decode cX2_keep 28 = .ok (.aload_n 0, 1) := by decide +kernel
theorem dX2_keep_29 : decode cX2_keep 29 = .ok (.dup, 1) := by decide +kernel
theorem dX2_keep_30 : decode cX2_keep 30 = .ok (.getfield 22, 3) := by decide +kernel
theorem dX2_keep_33 : decode cX2_keep 33 = .ok (.iconst 1, 1) := by decide +kernel
theorem dX2_keep_34 : decode cX2_keep 34 = .ok (.iadd, 1) := by decide +kernel
theorem dX2_keep_35 : decode cX2_keep 35 = .ok (.putfield 22, 3) := by decide +kernel
theorem dX2_keep_38 : decode cX2_keep 38 = .ok (.goto 15, 3) := by decide +kernel
theorem dX2_keep_41 : decode cX2_keep 41 = .ok (.aload_n 0, 1) := by decide +kernel
theorem dX2_keep_42 : decode cX2_keep 42 = .ok (.aload_n 0, 1) := by decide +kernel
theorem dX2_keep_43 : decode cX2_keep 43 = .ok (.getfield 18, 3) := by decide +kernel
theorem dX2_keep_46 : decode cX2_keep 46 = .ok (.iconst 1, 1) := by decide +kernel
theorem dX2_keep_47 : decode cX2_keep 47 = .ok (.iadd, 1) := by decide +kernel
theorem dX2_keep_48 : decode cX2_keep 48 = .ok (.iconst 4, 1) := by decide +kernel
theorem dX2_keep_49 : decode cX2_keep 49 = .ok (.irem, 1) := by decide +kernel
theorem dX2_keep_50 : decode cX2_keep 50 = .ok (.putfield 18, 3) := by decide +kernel
theorem dX2_keep_53 : decode cX2_keep 53 = .ok (.return_, 1) := by decide +kernel
theorem dX3_init_0 : decode cX3_init 0 = .ok (.aload_n 0, 1) := by decide +kernel
theorem dX3_init_1 : decode cX3_init 1 = .ok (.invokespecial 3, 3) := by decide +kernel
theorem dX3_init_4 : decode cX3_init 4 = .ok (.aload_n 0, 1) := by decide +kernel
theorem dX3_init_5 : decode cX3_init 5 = .ok (.bipush 6, 2) := by decide +kernel
theorem dX3_init_7 : decode cX3_init 7 = .ok (.anewarray 9, 3) := by decide +kernel
theorem dX3_init_10 : decode cX3_init 10 = .ok (.putfield 11, 3) := by decide +kernel
theorem dX3_init_13 : decode cX3_init 13 = .ok (.iconst 0, 1) := by decide +kernel
theorem dX3_init_14 : decode cX3_init 14 = .ok (.istore_n 1, 1) := by decide +kernel
theorem dX3_init_15 : decode cX3_init 15 = .ok (.iload_n 1, 1) := by decide +kernel
theorem dX3_init_16 : decode cX3_init 16 = .ok (.bipush 6, 2) := by decide +kernel
theorem dX3_init_18 : decode cX3_init 18 = .ok (.if_icmp .ge 22, 3) := by decide +kernel
theorem dX3_init_21 : decode cX3_init 21 = .ok (.aload_n 0, 1) := by decide +kernel
theorem dX3_init_22 : decode cX3_init 22 = .ok (.getfield 11, 3) := by decide +kernel
theorem dX3_init_25 : decode cX3_init 25 = .ok (.iload_n 1, 1) := by decide +kernel
theorem dX3_init_26 : decode cX3_init 26 = .ok (.new 9, 3) := by decide +kernel
theorem dX3_init_29 : decode cX3_init 29 = .ok (.dup, 1) := by decide +kernel
theorem dX3_init_30 : decode cX3_init 30 = .ok (.invokespecial 17, 3) := by decide +kernel
theorem dX3_init_33 : decode cX3_init 33 = .ok (.aastore, 1) := by decide +kernel
theorem dX3_init_34 : decode cX3_init 34 = .ok (.iinc 1 1, 3) := by decide +kernel
theorem dX3_init_37 : decode cX3_init 37 = .ok (.goto (-22), 3) := by decide +kernel
theorem dX3_init_40 : decode cX3_init 40 = .ok (.aload_n 0, 1) := by decide +kernel
theorem dX3_init_41 : decode cX3_init 41 = .ok (.bipush 8, 2) := by decide +kernel
theorem dX3_init_43 : decode cX3_init 43 = .ok (.anewarray 18, 3) := by decide +kernel
theorem dX3_init_46 : decode cX3_init 46 = .ok (.putfield 20, 3) := by decide +kernel
theorem dX3_init_49 : decode cX3_init 49 = .ok (.iconst 0, 1) := by decide +kernel
theorem dX3_init_50 : decode cX3_init 50 = .ok (.istore_n 1, 1) := by decide +kernel
theorem dX3_init_51 : decode cX3_init 51 = .ok (.iload_n 1, 1) := by decide +kernel
theorem dX3_init_52 : decode cX3_init 52 = .ok (.bipush 8, 2) := by decide +kernel
theorem dX3_init_54 : decode cX3_init 54 = .ok (.if_icmp .ge 22, 3) := by decide +kernel
theorem dX3_init_57 : decode cX3_init 57 = .ok (.aload_n 0, 1) := by decide +kernel
theorem dX3_init_58 : decode cX3_init 58 = .ok (.getfield 20, 3) := by decide +kernel
theorem dX3_init_61 : decode cX3_init 61 = .ok (.iload_n 1, 1) := by decide +kernel
theorem dX3_init_62 : decode cX3_init 62 = .ok (.new 18, 3) := by decide +kernel
theorem dX3_init_65 : decode cX3_init 65 = .ok (.dup, 1) := by decide +kernel
theorem dX3_init_66 : decode cX3_init 66 = .ok (.invokespecial 24, 3) := by decide +kernel
theorem dX3_init_69 : decode cX3_init 69 = .ok (.aastore, 1) := by decide +kernel
theorem dX3_init_70 : decode cX3_init 70 = .ok (.iinc 1 1, 3) := by decide +kernel
theorem dX3_init_73 : decode cX3_init 73 = .ok (.goto (-22), 3) := by decide +kernel
theorem dX3_init_76 : decode cX3_init 76 = .ok (.aload_n 0, 1) := by decide +kernel
theorem dX3_init_77 : decode cX3_init 77 = .ok (.iconst 3, 1) := by decide +kernel
theorem dX3_init_78 : decode cX3_init 78 = .ok (.newarray .int, 2) := by decide +kernel
theorem dX3_init_80 : decode cX3_init 80 = .ok (.putfield 25, 3) := by decide +kernel
theorem dX3_init_83 : decode cX3_init 83 = .ok (.iconst 0, 1) := by decide +kernel
theorem dX3_init_84 : decode cX3_init 84 = .ok (.istore_n 1, 1) := by decide +kernel
theorem dX3_init_85 : decode cX3_init 85 = .ok (.iload_n 1, 1) := by decide +kernel
theorem dX3_init_86 : decode cX3_init 86 = .ok (.iconst 3, 1) := by decide +kernel
theorem dX3_init_87 : decode cX3_init 87 = .ok (.if_icmp .ge 20, 3) := by decide +kernel
theorem dX3_init_90 : decode cX3_init 90 = .ok (.aload_n 0, 1) := by decide +kernel
theorem dX3_init_91 : decode cX3_init 91 = .ok (.getfield 25, 3) := by decide +kernel
theorem dX3_init_94 : decode cX3_init 94 = .ok (.iload_n 1, 1) := by decide +kernel
theorem dX3_init_95 : decode cX3_init 95 = .ok (.getstatic 29, 3) := by decide +kernel
theorem dX3_init_98 : decode cX3_init 98 = .ok (.iload_n 1, 1) := by decide +kernel
theorem dX3_init_99 : decode cX3_init 99 = .ok (.iaload, 1) := by decide +kernel
theorem dX3_init_100 : decode cX3_init 100 = .ok (.iastore, 1) := by decide +kernel
theorem dX3_init_101 : decode cX3_init 101 = .ok (.iinc 1 1, 3) := by decide +kernel
theorem dX3_init_104 : decode cX3_init 104 = .ok (.goto (-19), 3) := by decide +kernel
theorem dX3_init_107 : decode cX3_init 107 = .ok (.return_, 1) := by decide +kernel
theorem dX3_copyFrom_0 : decode cX3_copyFrom 0 = .ok (.aload_n 0, 1) := by decide +kernel
theorem dX3_copyFrom_1 : decode cX3_copyFrom 1 = .ok (.aload_n 1, 1) := by decide +kernel
theorem dX3_copyFrom_2 : decode cX3_copyFrom 2 = .ok (.getfield 32, 3) := by decide +kernel
theorem dX3_copyFrom_5 : decode cX3_copyFrom 5 = .ok (.putfield 32, 3) := by decide +kernel
theorem dX3_copyFrom_8 : decode cX3_copyFrom 8 = .ok (.iconst 0, 1) := by decide +kernel
theorem dX3_copyFrom_9 : decode cX3_copyFrom 9 = .ok (.istore_n 2, 1) := by decide +kernel
theorem dX3_copyFrom_10 : decode cX3_copyFrom 10 = .ok (.iload_n 2, 1) := by decide +kernel
theorem dX3_copyFrom_11 : decode cX3_copyFrom 11 = .ok (.aload_n 0, 1) := by decide +kernel
theorem dX3_copyFrom_12 : decode cX3_copyFrom 12 = .ok (.getfield 32, 3) := by decide +kernel
theorem dX3_copyFrom_15 : decode cX3_copyFrom 15 = .ok (.if_icmp .ge 24, 3) := by decide +kernel
theorem dX3_copyFrom_18 : decode cX3_copyFrom 18 = .ok (.aload_n 0, 1) := by decide +kernel
theorem dX3_copyFrom_19 : decode cX3_copyFrom 19 = .ok (.getfield 11, 3) := by decide +kernel
theorem dX3_copyFrom_22 : decode cX3_copyFrom 22 = .ok (.iload_n 2, 1) := by decide +kernel
theorem dX3_copyFrom_23 : decode cX3_copyFrom 23 = .ok (.aaload, 1) := by decide +kernel
theorem dX3_copyFrom_24 : decode cX3_copyFrom 24 = .ok (.aload_n 1, 1) := by decide +kernel
theorem dX3_copyFrom_25 : decode cX3_copyFrom 25 = .ok (.getfield 11, 3) := by decide +kernel
theorem dX3_copyFrom_28 : decode cX3_copyFrom 28 = .ok (.iload_n 2, 1) := by decide +kernel
theorem dX3_copyFrom_29 : decode cX3_copyFrom 29 = .ok (.aaload, 1) := by decide +kernel
theorem dX3_copyFrom_30 : decode cX3_copyFrom 30 = .ok (.invokevirtual 36, 3) := by decide +kernel
theorem dX3_copyFrom_33 : decode cX3_copyFrom 33 = .ok (.iinc 2 1, 3) := by decide +kernel
theorem dX3_copyFrom_36 : decode cX3_copyFrom 36 = .ok (.goto (-26), 3) := by decide +kernel
theorem dX3_copyFrom_39 : decode cX3_copyFrom 39 = .ok (.aload_n 0, 1) := by decide +kernel
theorem dX3_copyFrom_40 : decode cX3_copyFrom 40 = .ok (.aload_n 1, 1) := by decide +kernel
theorem dX3_copyFrom_41 : decode cX3_copyFrom 41 = .ok (.getfield 40, 3) := by decide +kernel
theorem dX3_copyFrom_44 : decode cX3_copyFrom 44 = .ok (.putfield 40, 3) := by decide +kernel
theorem dX3_copyFrom_47 : decode cX3_copyFrom 47 = .ok (.iconst 0, 1) := by decide +kernel
theorem dX3_copyFrom_48 : decode cX3_copyFrom 48 = .ok (.istore_n 2, 1) := by decide +kernel
theorem dX3_copyFrom_49 : decode cX3_copyFrom 49 = .ok (.iload_n 2, 1) := by decide +kernel
theorem dX3_copyFrom_50 : decode cX3_copyFrom 50 = .ok (.aload_n 0, 1) := by decide +kernel
theorem dX3_copyFrom_51 : decode cX3_copyFrom 51 = .ok (.getfield 40, 3) := by decide +kernel
theorem dX3_copyFrom_54 : decode cX3_copyFrom 54 = .ok (.if_icmp .ge 24, 3) := by decide +kernel
theorem dX3_copyFrom_57 : decode cX3_copyFrom 57 = .ok (.aload_n 0, 1) := by decide +kernel
theorem dX3_copyFrom_58 : decode cX3_copyFrom 58 = .ok (.getfield 20, 3) := by decide +kernel
theorem dX3_copyFrom_61 : decode cX3_copyFrom 61 = .ok (.iload_n 2, 1) := by decide +kernel
theorem dX3_copyFrom_62 : decode cX3_copyFrom 62 = .ok (.aaload, 1) := by decide +kernel
theorem dX3_copyFrom_63 : decode cX3_copyFrom 63 = .ok (.aload_n 1, 1) := by decide +kernel
theorem dX3_copyFrom_64 : decode cX3_copyFrom 64 = .ok (.getfield 20, 3) := by decide +kernel
theorem dX3_copyFrom_67 : decode cX3_copyFrom 67 = .ok (.iload_n 2, 1) := by decide +kernel
theorem dX3_copyFrom_68 : decode cX3_copyFrom 68 = .ok (.aaload, 1) := by decide +kernel
theorem dX3_copyFrom_69 : decode cX3_copyFrom 69 = .ok (.invokevirtual 43, 3) := by decide +kernel
theorem dX3_copyFrom_72 : decode cX3_copyFrom 72 = .ok (.iinc 2 1, 3) := by decide +kernel
theorem dX3_copyFrom_75 : decode cX3_copyFrom 75 = .ok (.goto (-26), 3) := by decide +kernel
theorem dX3_copyFrom_78 : decode cX3_copyFrom 78 = .ok (.aload_n 1, 1) := by decide +kernel
theorem dX3_copyFrom_79 : decode cX3_copyFrom 79 = .ok (.getfield 25, 3) := by decide +kernel
theorem dX3_copyFrom_82 : decode cX3_copyFrom 82 = .ok (.iconst 0, 1) := by decide +kernel
theorem dX3_copyFrom_83 : decode cX3_copyFrom 83 = .ok (.aload_n 0, 1) := by decide +kernel
theorem dX3_copyFrom_84 : decode cX3_copyFrom 84 = .ok (.getfield 25, 3) := by decide +kernel
theorem dX3_copyFrom_87 : decode cX3_copyFrom 87 = .ok (.iconst 0, 1) := by decide +kernel
theorem dX3_copyFrom_88 : decode cX3_copyFrom 88 = .ok (.iconst 3, 1) := by decide +kernel
theorem dX3_copyFrom_89 : decode cX3_copyFrom 89 = .ok (.invokestatic 46, 3) := by decide +kernel
theorem dX3_copyFrom_92 : decode cX3_copyFrom 92 = .ok (.aload_n 0, 1) := by decide +kernel
theorem dX3_copyFrom_93 : decode cX3_copyFrom 93 = .ok (.aload_n 1, 1) := by decide +kernel
theorem dX3_copyFrom_94 : decode cX3_copyFrom 94 = .ok (.getfield 52, 3) := by decide +kernel
theorem dX3_copyFrom_97 : decode cX3_copyFrom 97 = .ok (.putfield 52, 3) := by decide +kernel
theorem dX3_copyFrom_100 : decode cX3_copyFrom 100 = .ok (.aload_n 0, 1) := by decide +kernel
theorem dX3_copyFrom_101 : decode cX3_copyFrom 101 = .ok (.aload_n 1, 1) := by decide +kernel
theorem dX3_copyFrom_102 : decode cX3_copyFrom 102 = .ok (.getfield 55, 3) := by decide +kernel
theorem dX3_copyFrom_105 : decode cX3_copyFrom 105 = .ok (.putfield 55, 3) := by decide +kernel
theorem dX3_copyFrom_108 : decode cX3_copyFrom 108 = .ok (.aload_n 0, 1) := by decide +kernel
theorem dX3_copyFrom_109 : decode cX3_copyFrom 109 = .ok (.aload_n 1, 1) := by decide +kernel
theorem dX3_copyFrom_110 : decode cX3_copyFrom 110 = .ok (.getfield 58, 3) := by decide +kernel
theorem dX3_copyFrom_113 : decode cX3_copyFrom 113 = .ok (.putfield 58, 3) := by decide +kernel
theorem dX3_copyFrom_116 : decode cX3_copyFrom 116 = .ok (.aload_n 0, 1) := by decide +kernel
theorem dX3_copyFrom_117 : decode cX3_copyFrom 117 = .ok (.aload_n 1, 1) := by decide +kernel
theorem dX3_copyFrom_118 : decode cX3_copyFrom 118 = .ok (.getfield 61, 3) := by decide +kernel
theorem dX3_copyFrom_121 : decode cX3_copyFrom 121 = .ok (.putfield 61, 3) := by decide +kernel
theorem dX3_copyFrom_124 : decode cX3_copyFrom 124 = .ok (.aload_n 0, 1) := by decide +kernel
theorem dX3_copyFrom_125 : decode cX3_copyFrom 125 = .ok (.aload_n 1, 1) := by decide +kernel
theorem dX3_copyFrom_126 : decode cX3_copyFrom 126 = .ok (.getfield 64, 3) := by decide +kernel
theorem dX3_copyFrom_129 : decode cX3_copyFrom 129 = .ok (.putfield 64, 3) := by decide +kernel
theorem dX3_copyFrom_132 : decode cX3_copyFrom 132 = .ok (.return_, 1) := by decide +kernel
theorem dX3_sittersOf_0 : decode cX3_sittersOf 0 = .ok (.iconst 0, 1) := by decide +kernel
theorem dX3_sittersOf_1 : decode cX3_sittersOf 1 = .ok (.istore_n 2, 1) := by decide +kernel
theorem dX3_sittersOf_2 : decode cX3_sittersOf 2 = .ok (.iconst 0, 1) := by decide +kernel
theorem dX3_sittersOf_3 : decode cX3_sittersOf 3 = .ok (.istore_n 3, 1) := by decide +kernel
theorem dX3_sittersOf_4 : decode cX3_sittersOf 4 = .ok (.iload_n 3, 1) := by decide +kernel
theorem dX3_sittersOf_5 : decode cX3_sittersOf 5 = .ok (.aload_n 0, 1) := by decide +kernel
theorem dX3_sittersOf_6 : decode cX3_sittersOf 6 = .ok (.getfield 32, 3) := by decide +kernel
theorem dX3_sittersOf_9 : decode cX3_sittersOf 9 = .ok (.if_icmp .ge 25, 3) := by decide +kernel
theorem dX3_sittersOf_12 : decode cX3_sittersOf 12 = .ok (.aload_n 0, 1) := by decide +kernel
theorem dX3_sittersOf_13 : decode cX3_sittersOf 13 = .ok (.getfield 11, 3) := by decide +kernel
theorem dX3_sittersOf_16 : decode cX3_sittersOf 16 = .ok (.iload_n 3, 1) := by decide +kernel
theorem dX3_sittersOf_17 : decode cX3_sittersOf 17 = .ok (.aaload, 1) := by decide +kernel
theorem dX3_sittersOf_18 : decode cX3_sittersOf 18 = .ok (.getfield 68, 3) := by decide +kernel
theorem dX3_sittersOf_21 : decode cX3_sittersOf 21 = .ok (.iload_n 1, 1) := by decide +kernel
theorem dX3_sittersOf_22 : decode cX3_sittersOf 22 = .ok (.if_icmp .ne 6, 3) := by decide +kernel
theorem dX3_sittersOf_25 : decode cX3_sittersOf 25 = .ok (.iinc 2 1, 3) := by decide +kernel
theorem dX3_sittersOf_28 : decode cX3_sittersOf 28 = .ok (.iinc 3 1, 3) := by decide +kernel
theorem dX3_sittersOf_31 : decode cX3_sittersOf 31 = .ok (.goto (-27), 3) := by decide +kernel
theorem dX3_sittersOf_34 : decode cX3_sittersOf 34 = .ok (.iload_n 2, 1) := by decide +kernel
theorem dX3_sittersOf_35 : decode cX3_sittersOf 35 = .ok (.ireturn, 1) := by decide +kernel
theorem dX3_lowestFreeSeat_0 : decode cX3_lowestFreeSeat 0 = .ok (.iconst 0, 1) := by decide +kernel
theorem dX3_lowestFreeSeat_1 : decode cX3_lowestFreeSeat 1 = .ok (.istore_n 2, 1) := by decide +kernel
theorem dX3_lowestFreeSeat_2 : decode cX3_lowestFreeSeat 2 = .ok (.iload_n 2, 1) := by decide +kernel
theorem dX3_lowestFreeSeat_3 : decode cX3_lowestFreeSeat 3 = .ok (.iconst 2, 1) := by decide +kernel
theorem dX3_lowestFreeSeat_4 : decode cX3_lowestFreeSeat 4 = .ok (.if_icmp .ge 20, 3) := by decide +kernel
theorem dX3_lowestFreeSeat_7 : decode cX3_lowestFreeSeat 7 = .ok (.aload_n 0, 1) := by decide +kernel
theorem dX3_lowestFreeSeat_8 : decode cX3_lowestFreeSeat 8 = .ok (.iload_n 1, 1) := by decide +kernel
theorem dX3_lowestFreeSeat_9 : decode cX3_lowestFreeSeat 9 = .ok (.iload_n 2, 1) := by decide +kernel
theorem dX3_lowestFreeSeat_10 : decode cX3_lowestFreeSeat 10 = .ok (.invokevirtual 71, 3) := by decide +kernel
theorem dX3_lowestFreeSeat_13 : decode cX3_lowestFreeSeat 13 = .ok (.ifCond .ne 5, 3) := by decide +kernel
theorem dX3_lowestFreeSeat_16 : decode cX3_lowestFreeSeat 16 = .ok (.iload_n 2, 1) := by decide +kernel
theorem dX3_lowestFreeSeat_17 : decode cX3_lowestFreeSeat 17 = .ok (.ireturn, 1) := by decide +kernel
theorem dX3_lowestFreeSeat_18 : decode cX3_lowestFreeSeat 18 = .ok (.iinc 2 1, 3) := by decide +kernel
theorem dX3_lowestFreeSeat_21 : decode cX3_lowestFreeSeat 21 = .ok (.goto (-19), 3) := by decide +kernel
theorem dX3_lowestFreeSeat_24 : decode cX3_lowestFreeSeat 24 = .ok (.iconst (-1), 1) := by decide +kernel
theorem dX3_lowestFreeSeat_25 : decode cX3_lowestFreeSeat 25 = .ok (.ireturn, 1) := by decide +kernel
theorem dX3_isTaken_0 : decode cX3_isTaken 0 = .ok (.iconst 0, 1) := by decide +kernel
theorem dX3_isTaken_1 : decode cX3_isTaken 1 = .ok (.istore_n 3, 1) := by decide +kernel
theorem dX3_isTaken_2 : decode cX3_isTaken 2 = .ok (.iload_n 3, 1) := by decide +kernel
theorem dX3_isTaken_3 : decode cX3_isTaken 3 = .ok (.aload_n 0, 1) := by decide +kernel
theorem dX3_isTaken_4 : decode cX3_isTaken 4 = .ok (.getfield 32, 3) := by decide +kernel
theorem dX3_isTaken_7 : decode cX3_isTaken 7 = .ok (.if_icmp .ge 37, 3) := by decide +kernel
theorem dX3_isTaken_10 : decode cX3_isTaken 10 = .ok (.aload_n 0, 1) := by decide +kernel
theorem dX3_isTaken_11 : decode cX3_isTaken 11 = .ok (.getfield 11, 3) := by decide +kernel
theorem dX3_isTaken_14 : decode cX3_isTaken 14 = .ok (.iload_n 3, 1) := by decide +kernel
theorem dX3_isTaken_15 : decode cX3_isTaken 15 = .ok (.aaload, 1) := by decide +kernel
theorem dX3_isTaken_16 : decode cX3_isTaken 16 = .ok (.getfield 68, 3) := by decide +kernel
theorem dX3_isTaken_19 : decode cX3_isTaken 19 = .ok (.iload_n 1, 1) := by decide +kernel
theorem dX3_isTaken_20 : decode cX3_isTaken 20 = .ok (.if_icmp .ne 18, 3) := by decide +kernel
theorem dX3_isTaken_23 : decode cX3_isTaken 23 = .ok (.aload_n 0, 1) := by decide +kernel
theorem dX3_isTaken_24 : decode cX3_isTaken 24 = .ok (.getfield 11, 3) := by decide +kernel
theorem dX3_isTaken_27 : decode cX3_isTaken 27 = .ok (.iload_n 3, 1) := by decide +kernel
theorem dX3_isTaken_28 : decode cX3_isTaken 28 = .ok (.aaload, 1) := by decide +kernel
theorem dX3_isTaken_29 : decode cX3_isTaken 29 = .ok (.getfield 75, 3) := by decide +kernel
theorem dX3_isTaken_32 : decode cX3_isTaken 32 = .ok (.iload_n 2, 1) := by decide +kernel
theorem dX3_isTaken_33 : decode cX3_isTaken 33 = .ok (.if_icmp .ne 5, 3) := by decide +kernel
theorem dX3_isTaken_36 : decode cX3_isTaken 36 = .ok (.iconst 1, 1) := by decide +kernel
theorem dX3_isTaken_37 : decode cX3_isTaken 37 = .ok (.ireturn, 1) := by decide +kernel
theorem dX3_isTaken_38 : decode cX3_isTaken 38 = .ok (.iinc 3 1, 3) := by decide +kernel
theorem dX3_isTaken_41 : decode cX3_isTaken 41 = .ok (.goto (-39), 3) := by decide +kernel
theorem dX3_isTaken_44 : decode cX3_isTaken 44 = .ok (.iconst 0, 1) := by decide +kernel
theorem dX3_isTaken_45 : decode cX3_isTaken 45 = .ok (.ireturn, 1) := by decide +kernel
theorem dX3_seatedOracles_0 : decode cX3_seatedOracles 0 = .ok (.iconst 0, 1) := by decide +kernel
theorem dX3_seatedOracles_1 : decode cX3_seatedOracles 1 = .ok (.istore_n 1, 1) := by decide +kernel
theorem dX3_seatedOracles_2 : decode cX3_seatedOracles 2 = .ok (.iconst 0, 1) := by decide +kernel
theorem dX3_seatedOracles_3 : decode cX3_seatedOracles 3 = .ok (.istore_n 2, 1) := by decide +kernel
theorem dX3_seatedOracles_4 : decode cX3_seatedOracles 4 = .ok (.iload_n 2, 1) := by decide +kernel
theorem dX3_seatedOracles_5 : decode cX3_seatedOracles 5 = .ok (.aload_n 0, 1) := by decide +kernel
theorem dX3_seatedOracles_6 : decode cX3_seatedOracles 6 = .ok (.getfield 32, 3) := by decide +kernel
theorem dX3_seatedOracles_9 : decode cX3_seatedOracles 9 = .ok (.if_icmp .ge 24, 3) := by decide +kernel
theorem dX3_seatedOracles_12 : decode cX3_seatedOracles 12 = .ok (.aload_n 0, 1) := by decide +kernel
theorem dX3_seatedOracles_13 : decode cX3_seatedOracles 13 = .ok (.getfield 11, 3) := by decide +kernel
theorem dX3_seatedOracles_16 : decode cX3_seatedOracles 16 = .ok (.iload_n 2, 1) := by decide +kernel
theorem dX3_seatedOracles_17 : decode cX3_seatedOracles 17 = .ok (.aaload, 1) := by decide +kernel
theorem dX3_seatedOracles_18 : decode cX3_seatedOracles 18 = .ok (.invokevirtual 78, 3) := by decide +kernel
theorem dX3_seatedOracles_21 : decode cX3_seatedOracles 21 = .ok (.ifCond .eq 6, 3) := by decide +kernel
theorem dX3_seatedOracles_24 : decode cX3_seatedOracles 24 = .ok (.iinc 1 1, 3) := by decide +kernel
theorem dX3_seatedOracles_27 : decode cX3_seatedOracles 27 = .ok (.iinc 2 1, 3) := by decide +kernel
theorem dX3_seatedOracles_30 : decode cX3_seatedOracles 30 = .ok (.goto (-26), 3) := by decide +kernel
theorem dX3_seatedOracles_33 : decode cX3_seatedOracles 33 = .ok (.iload_n 1, 1) := by decide +kernel
theorem dX3_seatedOracles_34 : decode cX3_seatedOracles 34 = .ok (.ireturn, 1) := by decide +kernel
theorem dX3_ruinedOracles_0 : decode cX3_ruinedOracles 0 = .ok (.iconst 0, 1) := by decide +kernel
theorem dX3_ruinedOracles_1 : decode cX3_ruinedOracles 1 = .ok (.istore_n 1, 1) := by decide +kernel
theorem dX3_ruinedOracles_2 : decode cX3_ruinedOracles 2 = .ok (.iconst 0, 1) := by decide +kernel
theorem dX3_ruinedOracles_3 : decode cX3_ruinedOracles 3 = .ok (.istore_n 2, 1) := by decide +kernel
theorem dX3_ruinedOracles_4 : decode cX3_ruinedOracles 4 = .ok (.iload_n 2, 1) := by decide +kernel
theorem dX3_ruinedOracles_5 : decode cX3_ruinedOracles 5 = .ok (.aload_n 0, 1) := by decide +kernel
theorem dX3_ruinedOracles_6 : decode cX3_ruinedOracles 6 = .ok (.getfield 32, 3) := by decide +kernel
theorem dX3_ruinedOracles_9 : decode cX3_ruinedOracles 9 = .ok (.if_icmp .ge 24, 3) := by decide +kernel
theorem dX3_ruinedOracles_12 : decode cX3_ruinedOracles 12 = .ok (.aload_n 0, 1) := by decide +kernel
theorem dX3_ruinedOracles_13 : decode cX3_ruinedOracles 13 = .ok (.getfield 11, 3) := by decide +kernel
theorem dX3_ruinedOracles_16 : decode cX3_ruinedOracles 16 = .ok (.iload_n 2, 1) := by decide +kernel
theorem dX3_ruinedOracles_17 : decode cX3_ruinedOracles 17 = .ok (.aaload, 1) := by decide +kernel
theorem dX3_ruinedOracles_18 : decode cX3_ruinedOracles 18 = .ok (.invokevirtual 82, 3) := by decide +kernel
theorem dX3_ruinedOracles_21 : decode cX3_ruinedOracles 21 = .ok (.ifCond .eq 6, 3) := by decide +kernel
theorem dX3_ruinedOracles_24 : decode cX3_ruinedOracles 24 = .ok (.iinc 1 1, 3) := by decide +kernel
theorem dX3_ruinedOracles_27 : decode cX3_ruinedOracles 27 = .ok (.iinc 2 1, 3) := by decide +kernel
theorem dX3_ruinedOracles_30 : decode cX3_ruinedOracles 30 = .ok (.goto (-26), 3) := by decide +kernel
theorem dX3_ruinedOracles_33 : decode cX3_ruinedOracles 33 = .ok (.iload_n 1, 1) := by decide +kernel
theorem dX3_ruinedOracles_34 : decode cX3_ruinedOracles 34 = .ok (.ireturn, 1) := by decide +kernel
theorem dX3_allCoins_0 : decode cX3_allCoins 0 = .ok (.aload_n 0, 1) := by decide +kernel
theorem dX3_allCoins_1 : decode cX3_allCoins 1 = .ok (.getfield 52, 3) := by decide +kernel
theorem dX3_allCoins_4 : decode cX3_allCoins 4 = .ok (.istore_n 1, 1) := by decide +kernel
theorem dX3_allCoins_5 : decode cX3_allCoins 5 = .ok (.iconst 0, 1) := by decide +kernel
theorem dX3_allCoins_6 : decode cX3_allCoins 6 = .ok (.istore_n 2, 1) := by decide +kernel
theorem dX3_allCoins_7 : decode cX3_allCoins 7 = .ok (.iload_n 2, 1) := by decide +kernel
theorem dX3_allCoins_8 : decode cX3_allCoins 8 = .ok (.aload_n 0, 1) := by decide +kernel
theorem dX3_allCoins_9 : decode cX3_allCoins 9 = .ok (.getfield 32, 3) := by decide +kernel
theorem dX3_allCoins_12 : decode cX3_allCoins 12 = .ok (.if_icmp .ge 21, 3) := by decide +kernel
theorem dX3_allCoins_15 : decode cX3_allCoins 15 = .ok (.iload_n 1, 1) := by decide +kernel
theorem dX3_allCoins_16 : decode cX3_allCoins 16 = .ok (.aload_n 0, 1) := by decide +kernel
theorem dX3_allCoins_17 : decode cX3_allCoins 17 = .ok (.getfield 11, 3) := by decide +kernel
theorem dX3_allCoins_20 : decode cX3_allCoins 20 = .ok (.iload_n 2, 1) := by decide +kernel
theorem dX3_allCoins_21 : decode cX3_allCoins 21 = .ok (.aaload, 1) := by decide +kernel
theorem dX3_allCoins_22 : decode cX3_allCoins 22 = .ok (.getfield 85, 3) := by decide +kernel
theorem dX3_allCoins_25 : decode cX3_allCoins 25 = .ok (.iadd, 1) := by decide +kernel
theorem dX3_allCoins_26 : decode cX3_allCoins 26 = .ok (.istore_n 1, 1) := by decide +kernel
theorem dX3_allCoins_27 : decode cX3_allCoins 27 = .ok (.iinc 2 1, 3) := by decide +kernel
theorem dX3_allCoins_30 : decode cX3_allCoins 30 = .ok (.goto (-23), 3) := by decide +kernel
theorem dX3_allCoins_33 : decode cX3_allCoins 33 = .ok (.iload_n 1, 1) := by decide +kernel
theorem dX3_allCoins_34 : decode cX3_allCoins 34 = .ok (.ireturn, 1) := by decide +kernel
theorem dX3_richerThan_0 : decode cX3_richerThan 0 = .ok (.aload_n 0, 1) := by decide +kernel
theorem dX3_richerThan_1 : decode cX3_richerThan 1 = .ok (.getfield 11, 3) := by decide +kernel
theorem dX3_richerThan_4 : decode cX3_richerThan 4 = .ok (.iload_n 1, 1) := by decide +kernel
theorem dX3_richerThan_5 : decode cX3_richerThan 5 = .ok (.aaload, 1) := by decide +kernel
theorem dX3_richerThan_6 : decode cX3_richerThan 6 = .ok (.getfield 85, 3) := by decide +kernel
theorem dX3_richerThan_9 : decode cX3_richerThan 9 = .ok (.istore_n 2, 1) := by decide +kernel
theorem dX3_richerThan_10 : decode cX3_richerThan 10 = .ok (.iconst 0, 1) := by decide +kernel
theorem dX3_richerThan_11 : decode cX3_richerThan 11 = .ok (.istore_n 3, 1) := by decide +kernel
theorem dX3_richerThan_12 : decode cX3_richerThan 12 = .ok (.iconst 0, 1) := by decide +kernel
theorem dX3_richerThan_13 : decode cX3_richerThan 13 = .ok (.istore 4, 2) := by decide +kernel
theorem dX3_richerThan_15 : decode cX3_richerThan 15 = .ok (.iload 4, 2) := by decide +kernel
theorem dX3_richerThan_17 : decode cX3_richerThan 17 = .ok (.aload_n 0, 1) := by decide +kernel
theorem dX3_richerThan_18 : decode cX3_richerThan 18 = .ok (.getfield 32, 3) := by decide +kernel
theorem dX3_richerThan_21 : decode cX3_richerThan 21 = .ok (.if_icmp .ge 46, 3) := by decide +kernel
theorem dX3_richerThan_24 : decode cX3_richerThan 24 = .ok (.aload_n 0, 1) := by decide +kernel
theorem dX3_richerThan_25 : decode cX3_richerThan 25 = .ok (.getfield 11, 3) := by decide +kernel
theorem dX3_richerThan_28 : decode cX3_richerThan 28 = .ok (.iload 4, 2) := by decide +kernel
theorem dX3_richerThan_30 : decode cX3_richerThan 30 = .ok (.aaload, 1) := by decide +kernel
theorem dX3_richerThan_31 : decode cX3_richerThan 31 = .ok (.getfield 85, 3) := by decide +kernel
theorem dX3_richerThan_34 : decode cX3_richerThan 34 = .ok (.iload_n 2, 1) := by decide +kernel
theorem dX3_richerThan_35 : decode cX3_richerThan 35 = .ok (.if_icmp .gt 23, 3) := by decide +kernel
theorem dX3_richerThan_38 : decode cX3_richerThan 38 = .ok (.aload_n 0, 1) := by decide +kernel
theorem dX3_richerThan_39 : decode cX3_richerThan 39 = .ok (.getfield 11, 3) := by decide +kernel
theorem dX3_richerThan_42 : decode cX3_richerThan 42 = .ok (.iload 4, 2) := by decide +kernel
theorem dX3_richerThan_44 : decode cX3_richerThan 44 = .ok (.aaload, 1) := by decide +kernel
theorem dX3_richerThan_45 : decode cX3_richerThan 45 = .ok (.getfield 85, 3) := by decide +kernel
theorem dX3_richerThan_48 : decode cX3_richerThan 48 = .ok (.iload_n 2, 1) := by decide +kernel
theorem dX3_richerThan_49 : decode cX3_richerThan 49 = .ok (.if_icmp .ne 12, 3) := by decide +kernel
theorem dX3_richerThan_52 : decode cX3_richerThan 52 = .ok (.iload 4, 2) := by decide +kernel
theorem dX3_richerThan_54 : decode cX3_richerThan 54 = .ok (.iload_n 1, 1) := by decide +kernel
theorem dX3_richerThan_55 : decode cX3_richerThan 55 = .ok (.if_icmp .ge 6, 3) := by decide +kernel
theorem dX3_richerThan_58 : decode cX3_richerThan 58 = .ok (.iinc 3 1, 3) := by decide +kernel
theorem dX3_richerThan_61 : decode cX3_richerThan 61 = .ok (.iinc 4 1, 3) := by decide +kernel
theorem dX3_richerThan_64 : decode cX3_richerThan 64 = .ok (.goto (-49), 3) := by decide +kernel
theorem dX3_richerThan_67 : decode cX3_richerThan 67 = .ok (.iload_n 3, 1) := by decide +kernel
theorem dX3_richerThan_68 : decode cX3_richerThan 68 = .ok (.ireturn, 1) := by decide +kernel
theorem dX3_addLoan_0 : decode cX3_addLoan 0 = .ok (.aload_n 0, 1) := by decide +kernel
theorem dX3_addLoan_1 : decode cX3_addLoan 1 = .ok (.getfield 11, 3) := by decide +kernel
theorem dX3_addLoan_4 : decode cX3_addLoan 4 = .ok (.iload_n 1, 1) := by decide +kernel
theorem dX3_addLoan_5 : decode cX3_addLoan 5 = .ok (.aaload, 1) := by decide +kernel
theorem dX3_addLoan_6 : decode cX3_addLoan 6 = .ok (.dup, 1) := by decide +kernel
theorem dX3_addLoan_7 : decode cX3_addLoan 7 = .ok (.getfield 85, 3) := by decide +kernel
theorem dX3_addLoan_10 : decode cX3_addLoan 10 = .ok (.iload_n 3, 1) := by decide +kernel
theorem dX3_addLoan_11 : decode cX3_addLoan 11 = .ok (.isub, 1) := by decide +kernel
theorem dX3_addLoan_12 : decode cX3_addLoan 12 = .ok (.putfield 85, 3) := by decide +kernel
theorem dX3_addLoan_15 : decode cX3_addLoan 15 = .ok (.aload_n 0, 1) := by decide +kernel
theorem dX3_addLoan_16 : decode cX3_addLoan 16 = .ok (.getfield 11, 3) := by decide +kernel
theorem dX3_addLoan_19 : decode cX3_addLoan 19 = .ok (.iload_n 2, 1) := by decide +kernel
theorem dX3_addLoan_20 : decode cX3_addLoan 20 = .ok (.aaload, 1) := by decide +kernel
theorem dX3_addLoan_21 : decode cX3_addLoan 21 = .ok (.dup, 1) := by decide +kernel
theorem dX3_addLoan_22 : decode cX3_addLoan 22 = .ok (.getfield 85, 3) := by decide +kernel
theorem dX3_addLoan_25 : decode cX3_addLoan 25 = .ok (.iload_n 3, 1) := by decide +kernel
theorem dX3_addLoan_26 : decode cX3_addLoan 26 = .ok (.iadd, 1) := by decide +kernel
theorem dX3_addLoan_27 : decode cX3_addLoan 27 = .ok (.putfield 85, 3) := by decide +kernel
theorem dX3_addLoan_30 : decode cX3_addLoan 30 = .ok (.aload_n 0, 1) := by decide +kernel
theorem dX3_addLoan_31 : decode cX3_addLoan 31 = .ok (.getfield 40, 3) := by decide +kernel
theorem dX3_addLoan_34 : decode cX3_addLoan 34 = .ok (.istore 4, 2) := by decide +kernel
theorem dX3_addLoan_36 : decode cX3_addLoan 36 = .ok (.aload_n 0, 1) := by decide +kernel
theorem dX3_addLoan_37 : decode cX3_addLoan 37 = .ok (.getfield 20, 3) := by decide +kernel
theorem dX3_addLoan_40 : decode cX3_addLoan 40 = .ok (.iload 4, 2) := by decide +kernel
theorem dX3_addLoan_42 : decode cX3_addLoan 42 = .ok (.aaload, 1) := by decide +kernel
theorem dX3_addLoan_43 : decode cX3_addLoan 43 = .ok (.iload_n 1, 1) := by decide +kernel
theorem dX3_addLoan_44 : decode cX3_addLoan 44 = .ok (.putfield 88, 3) := by decide +kernel
theorem dX3_addLoan_47 : decode cX3_addLoan 47 = .ok (.aload_n 0, 1) := by decide +kernel
theorem dX3_addLoan_48 : decode cX3_addLoan 48 = .ok (.getfield 20, 3) := by decide +kernel
theorem dX3_addLoan_51 : decode cX3_addLoan 51 = .ok (.iload 4, 2) := by decide +kernel
theorem dX3_addLoan_53 : decode cX3_addLoan 53 = .ok (.aaload, 1) := by decide +kernel
theorem dX3_addLoan_54 : decode cX3_addLoan 54 = .ok (.iload_n 2, 1) := by decide +kernel
theorem dX3_addLoan_55 : decode cX3_addLoan 55 = .ok (.putfield 91, 3) := by decide +kernel
theorem dX3_addLoan_58 : decode cX3_addLoan 58 = .ok (.aload_n 0, 1) := by decide +kernel
theorem dX3_addLoan_59 : decode cX3_addLoan 59 = .ok (.getfield 20, 3) := by decide +kernel
theorem dX3_addLoan_62 : decode cX3_addLoan 62 = .ok (.iload 4, 2) := by decide +kernel
theorem dX3_addLoan_64 : decode cX3_addLoan 64 = .ok (.aaload, 1) := by decide +kernel
theorem dX3_addLoan_65 : decode cX3_addLoan 65 = .ok (.iload_n 3, 1) := by decide +kernel
theorem dX3_addLoan_66 : decode cX3_addLoan 66 = .ok (.putfield 94, 3) := by decide +kernel
theorem dX3_addLoan_69 : decode cX3_addLoan 69 = .ok (.aload_n 0, 1) := by decide +kernel
theorem dX3_addLoan_70 : decode cX3_addLoan 70 = .ok (.iload 4, 2) := by decide +kernel
theorem dX3_addLoan_72 : decode cX3_addLoan 72 = .ok (.iconst 1, 1) := by decide +kernel
theorem dX3_addLoan_73 : decode cX3_addLoan 73 = .ok (.iadd, 1) := by decide +kernel
theorem dX3_addLoan_74 : decode cX3_addLoan 74 = .ok (.putfield 40, 3) := by decide +kernel
theorem dX3_addLoan_77 : decode cX3_addLoan 77 = .ok (.iload 4, 2) := by decide +kernel
theorem dX3_addLoan_79 : decode cX3_addLoan 79 = .ok (.ireturn, 1) := by decide +kernel
theorem dX3_debtsOf_0 : decode cX3_debtsOf 0 = .ok (.iconst 0, 1) := by decide +kernel
theorem dX3_debtsOf_1 : decode cX3_debtsOf 1 = .ok (.istore_n 2, 1) := by decide +kernel
theorem dX3_debtsOf_2 : decode cX3_debtsOf 2 = .ok (.iconst 0, 1) := by decide +kernel
theorem dX3_debtsOf_3 : decode cX3_debtsOf 3 = .ok (.istore_n 3, 1) := by decide +kernel
theorem dX3_debtsOf_4 : decode cX3_debtsOf 4 = .ok (.iload_n 3, 1) := by decide +kernel
theorem dX3_debtsOf_5 : decode cX3_debtsOf 5 = .ok (.aload_n 0, 1) := by decide +kernel
theorem dX3_debtsOf_6 : decode cX3_debtsOf 6 = .ok (.getfield 40, 3) := by decide +kernel
theorem dX3_debtsOf_9 : decode cX3_debtsOf 9 = .ok (.if_icmp .ge 34, 3) := by decide +kernel
theorem dX3_debtsOf_12 : decode cX3_debtsOf 12 = .ok (.aload_n 0, 1) := by decide +kernel
theorem dX3_debtsOf_13 : decode cX3_debtsOf 13 = .ok (.getfield 20, 3) := by decide +kernel
theorem dX3_debtsOf_16 : decode cX3_debtsOf 16 = .ok (.iload_n 3, 1) := by decide +kernel
theorem dX3_debtsOf_17 : decode cX3_debtsOf 17 = .ok (.aaload, 1) := by decide +kernel
theorem dX3_debtsOf_18 : decode cX3_debtsOf 18 = .ok (.getfield 91, 3) := by decide +kernel
theorem dX3_debtsOf_21 : decode cX3_debtsOf 21 = .ok (.iload_n 1, 1) := by decide +kernel
theorem dX3_debtsOf_22 : decode cX3_debtsOf 22 = .ok (.if_icmp .ne 15, 3) := by decide +kernel
theorem dX3_debtsOf_25 : decode cX3_debtsOf 25 = .ok (.iload_n 2, 1) := by decide +kernel
theorem dX3_debtsOf_26 : decode cX3_debtsOf 26 = .ok (.aload_n 0, 1) := by decide +kernel
theorem dX3_debtsOf_27 : decode cX3_debtsOf 27 = .ok (.getfield 20, 3) := by decide +kernel
theorem dX3_debtsOf_30 : decode cX3_debtsOf 30 = .ok (.iload_n 3, 1) := by decide +kernel
theorem dX3_debtsOf_31 : decode cX3_debtsOf 31 = .ok (.aaload, 1) := by decide +kernel
theorem dX3_debtsOf_32 : decode cX3_debtsOf 32 = .ok (.getfield 94, 3) := by decide +kernel
theorem dX3_debtsOf_35 : decode cX3_debtsOf 35 = .ok (.iadd, 1) := by decide +kernel
theorem dX3_debtsOf_36 : decode cX3_debtsOf 36 = .ok (.istore_n 2, 1) := by decide +kernel
theorem dX3_debtsOf_37 : decode cX3_debtsOf 37 = .ok (.iinc 3 1, 3) := by decide +kernel
theorem dX3_debtsOf_40 : decode cX3_debtsOf 40 = .ok (.goto (-36), 3) := by decide +kernel
theorem dX3_debtsOf_43 : decode cX3_debtsOf 43 = .ok (.iload_n 2, 1) := by decide +kernel
theorem dX3_debtsOf_44 : decode cX3_debtsOf 44 = .ok (.ireturn, 1) := by decide +kernel
theorem dX3_claimsOf_0 : decode cX3_claimsOf 0 = .ok (.iconst 0, 1) := by decide +kernel
theorem dX3_claimsOf_1 : decode cX3_claimsOf 1 = .ok (.istore_n 2, 1) := by decide +kernel
theorem dX3_claimsOf_2 : decode cX3_claimsOf 2 = .ok (.iconst 0, 1) := by decide +kernel
theorem dX3_claimsOf_3 : decode cX3_claimsOf 3 = .ok (.istore_n 3, 1) := by decide +kernel
theorem dX3_claimsOf_4 : decode cX3_claimsOf 4 = .ok (.iload_n 3, 1) := by decide +kernel
theorem dX3_claimsOf_5 : decode cX3_claimsOf 5 = .ok (.aload_n 0, 1) := by decide +kernel
theorem dX3_claimsOf_6 : decode cX3_claimsOf 6 = .ok (.getfield 40, 3) := by decide +kernel
theorem dX3_claimsOf_9 : decode cX3_claimsOf 9 = .ok (.if_icmp .ge 34, 3) := by decide +kernel
theorem dX3_claimsOf_12 : decode cX3_claimsOf 12 = .ok (.aload_n 0, 1) := by decide +kernel
theorem dX3_claimsOf_13 : decode cX3_claimsOf 13 = .ok (.getfield 20, 3) := by decide +kernel
theorem dX3_claimsOf_16 : decode cX3_claimsOf 16 = .ok (.iload_n 3, 1) := by decide +kernel
theorem dX3_claimsOf_17 : decode cX3_claimsOf 17 = .ok (.aaload, 1) := by decide +kernel
theorem dX3_claimsOf_18 : decode cX3_claimsOf 18 = .ok (.getfield 88, 3) := by decide +kernel
theorem dX3_claimsOf_21 : decode cX3_claimsOf 21 = .ok (.iload_n 1, 1) := by decide +kernel
theorem dX3_claimsOf_22 : decode cX3_claimsOf 22 = .ok (.if_icmp .ne 15, 3) := by decide +kernel
theorem dX3_claimsOf_25 : decode cX3_claimsOf 25 = .ok (.iload_n 2, 1) := by decide +kernel
theorem dX3_claimsOf_26 : decode cX3_claimsOf 26 = .ok (.aload_n 0, 1) := by decide +kernel
theorem dX3_claimsOf_27 : decode cX3_claimsOf 27 = .ok (.getfield 20, 3) := by decide +kernel
theorem dX3_claimsOf_30 : decode cX3_claimsOf 30 = .ok (.iload_n 3, 1) := by decide +kernel
theorem dX3_claimsOf_31 : decode cX3_claimsOf 31 = .ok (.aaload, 1) := by decide +kernel
theorem dX3_claimsOf_32 : decode cX3_claimsOf 32 = .ok (.getfield 94, 3) := by decide +kernel
theorem dX3_claimsOf_35 : decode cX3_claimsOf 35 = .ok (.iadd, 1) := by decide +kernel
theorem dX3_claimsOf_36 : decode cX3_claimsOf 36 = .ok (.istore_n 2, 1) := by decide +kernel
theorem dX3_claimsOf_37 : decode cX3_claimsOf 37 = .ok (.iinc 3 1, 3) := by decide +kernel
theorem dX3_claimsOf_40 : decode cX3_claimsOf 40 = .ok (.goto (-36), 3) := by decide +kernel
theorem dX3_claimsOf_43 : decode cX3_claimsOf 43 = .ok (.iload_n 2, 1) := by decide +kernel
theorem dX3_claimsOf_44 : decode cX3_claimsOf 44 = .ok (.ireturn, 1) := by decide +kernel
theorem dX3_foretell_0 : decode cX3_foretell 0 = .ok (.iconst 0, 1) := by decide +kernel
theorem dX3_foretell_1 : decode cX3_foretell 1 = .ok (.istore_n 2, 1) := by decide +kernel
theorem dX3_foretell_2 : decode cX3_foretell 2 = .ok (.iconst 0, 1) := by decide +kernel
theorem dX3_foretell_3 : decode cX3_foretell 3 = .ok (.istore_n 3, 1) := by decide +kernel
theorem dX3_foretell_4 : decode cX3_foretell 4 = .ok (.iconst 0, 1) := by decide +kernel
theorem dX3_foretell_5 : decode cX3_foretell 5 = .ok (.istore 4, 2) := by decide +kernel
theorem dX3_foretell_7 : decode cX3_foretell 7 = .ok (.iload 4, 2) := by decide +kernel
theorem dX3_foretell_9 : decode cX3_foretell 9 = .ok (.aload_n 0, 1) := by decide +kernel
theorem dX3_foretell_10 : decode cX3_foretell 10 = .ok (.getfield 32, 3) := by decide +kernel
theorem dX3_foretell_13 : decode cX3_foretell 13 = .ok (.if_icmp .ge 110, 3) := by decide +kernel
theorem dX3_foretell_16 : decode cX3_foretell 16 = .ok (.aload_n 0, 1) := by decide +kernel
theorem dX3_foretell_17 : decode cX3_foretell 17 = .ok (.getfield 11, 3) := by decide +kernel
theorem dX3_foretell_20 : decode cX3_foretell 20 = .ok (.iload 4, 2) := by decide +kernel
theorem dX3_foretell_22 : decode cX3_foretell 22 = .ok (.aaload, 1) := by decide +kernel
theorem dX3_foretell_23 : decode cX3_foretell 23 = .ok (.astore 5, 2) := by decide +kernel
theorem dX3_foretell_25 : decode cX3_foretell 25 = .ok (.aload 5, 2) := by decide +kernel
theorem dX3_foretell_27 : decode cX3_foretell 27 = .ok (.aload 5, 2) := by decide +kernel
theorem dX3_foretell_29 : decode cX3_foretell 29 = .ok (.aload_n 0, 1) := by decide +kernel
theorem dX3_foretell_30 : decode cX3_foretell 30 = .ok (.getfield 25, 3) := by decide +kernel
theorem dX3_foretell_33 : decode cX3_foretell 33 = .ok (.iconst 0, 1) := by decide +kernel
theorem dX3_foretell_34 : decode cX3_foretell 34 = .ok (.iaload, 1) := by decide +kernel
theorem dX3_foretell_35 : decode cX3_foretell 35 = .ok (.iload_n 1, 1) := by decide +kernel
theorem dX3_foretell_36 : decode cX3_foretell 36 = .ok (.aload_n 0, 1) := by decide +kernel
theorem dX3_foretell_37 : decode cX3_foretell 37 = .ok (.getfield 55, 3) := by decide +kernel
theorem dX3_foretell_40 : decode cX3_foretell 40 = .ok (.invokevirtual 97, 3) := by decide +kernel
theorem dX3_foretell_43 : decode cX3_foretell 43 = .ok (.putfield 101, 3) := by decide +kernel
theorem dX3_foretell_46 : decode cX3_foretell 46 = .ok (.aload 5, 2) := by decide +kernel
theorem dX3_foretell_48 : decode cX3_foretell 48 = .ok (.getfield 104, 3) := by decide +kernel
theorem dX3_foretell_51 : decode cX3_foretell 51 = .ok (.iconst 4, 1) := by decide +kernel
theorem dX3_foretell_52 : decode cX3_foretell 52 = .ok (.if_icmp .ne 6, 3) := by decide +kernel
theorem dX3_foretell_55 : decode cX3_foretell 55 = .ok (.goto 62, 3) := by decide +kernel
theorem dX3_foretell_58 : decode cX3_foretell 58 = .ok (.aload 5, 2) := by decide +kernel
theorem dX3_foretell_60 : decode cX3_foretell 60 = .ok (.aload 5, 2) := by decide +kernel
theorem dX3_foretell_62 : decode cX3_foretell 62 = .ok (.iload_n 1, 1) := by decide +kernel
theorem dX3_foretell_63 : decode cX3_foretell 63 = .ok (.aload_n 0, 1) := by decide +kernel
theorem dX3_foretell_64 : decode cX3_foretell 64 = .ok (.getfield 55, 3) := by decide +kernel
theorem dX3_foretell_67 : decode cX3_foretell 67 = .ok (.invokevirtual 107, 3) := by decide +kernel
theorem dX3_foretell_70 : decode cX3_foretell 70 = .ok (.putfield 111, 3) := by decide +kernel
theorem dX3_foretell_73 : decode cX3_foretell 73 = .ok (.aload 5, 2) := by decide +kernel
theorem dX3_foretell_75 : decode cX3_foretell 75 = .ok (.invokevirtual 114, 3) := by decide +kernel
theorem dX3_foretell_78 : decode cX3_foretell 78 = .ok (.ifCond .eq 23, 3) := by decide +kernel
theorem dX3_foretell_81 : decode cX3_foretell 81 = .ok (.aload 5, 2) := by decide +kernel
theorem dX3_foretell_83 : decode cX3_foretell 83 = .ok (.getfield 111, 3) := by decide +kernel
theorem dX3_foretell_86 : decode cX3_foretell 86 = .ok (.iconst 1, 1) := by decide +kernel
theorem dX3_foretell_87 : decode cX3_foretell 87 = .ok (.if_icmp .ne 14, 3) := by decide +kernel
theorem dX3_foretell_90 : decode cX3_foretell 90 = .ok (.iload_n 2, 1) := by decide +kernel
theorem dX3_foretell_91 : decode cX3_foretell 91 = .ok (.aload 5, 2) := by decide +kernel
theorem dX3_foretell_93 : decode cX3_foretell 93 = .ok (.getfield 85, 3) := by decide +kernel
theorem dX3_foretell_96 : decode cX3_foretell 96 = .ok (.iadd, 1) := by decide +kernel
theorem dX3_foretell_97 : decode cX3_foretell 97 = .ok (.istore_n 2, 1) := by decide +kernel
theorem dX3_foretell_98 : decode cX3_foretell 98 = .ok (.goto 19, 3) := by decide +kernel
theorem dX3_foretell_101 : decode cX3_foretell 101 = .ok (.aload 5, 2) := by decide +kernel
theorem dX3_foretell_103 : decode cX3_foretell 103 = .ok (.invokevirtual 114, 3) := by decide +kernel
theorem dX3_foretell_106 : decode cX3_foretell 106 = .ok (.ifCond .eq 11, 3) := by decide +kernel
theorem dX3_foretell_109 : decode cX3_foretell 109 = .ok (.iload_n 3, 1) := by decide +kernel
theorem dX3_foretell_110 : decode cX3_foretell 110 = .ok (.aload 5, 2) := by decide +kernel
theorem dX3_foretell_112 : decode cX3_foretell 112 = .ok (.getfield 85, 3) := by decide +kernel
theorem dX3_foretell_115 : decode cX3_foretell 115 = .ok (.iadd, 1) := by decide +kernel
theorem dX3_foretell_116 : decode cX3_foretell 116 = .ok (.istore_n 3, 1) := by decide +kernel
theorem dX3_foretell_117 : decode cX3_foretell 117 = .ok (.iinc 4 1, 3) := by decide +kernel
theorem dX3_foretell_120 : decode cX3_foretell 120 = .ok (.goto (-113), 3) := by decide +kernel
theorem dX3_foretell_123 : decode cX3_foretell 123 = .ok (.iconst 0, 1) := by decide +kernel
theorem dX3_foretell_124 : decode cX3_foretell 124 = .ok (.istore 4, 2) := by decide +kernel
theorem dX3_foretell_126 : decode cX3_foretell 126 = .ok (.iload 4, 2) := by decide +kernel
theorem dX3_foretell_128 : decode cX3_foretell 128 = .ok (.aload_n 0, 1) := by decide +kernel
theorem dX3_foretell_129 : decode cX3_foretell 129 = .ok (.getfield 32, 3) := by decide +kernel
theorem dX3_foretell_132 : decode cX3_foretell 132 = .ok (.if_icmp .ge 43, 3) := by decide +kernel
theorem dX3_foretell_135 : decode cX3_foretell 135 = .ok (.aload_n 0, 1) := by decide +kernel
theorem dX3_foretell_136 : decode cX3_foretell 136 = .ok (.getfield 11, 3) := by decide +kernel
theorem dX3_foretell_139 : decode cX3_foretell 139 = .ok (.iload 4, 2) := by decide +kernel
theorem dX3_foretell_141 : decode cX3_foretell 141 = .ok (.aaload, 1) := by decide +kernel
theorem dX3_foretell_142 : decode cX3_foretell 142 = .ok (.getfield 104, 3) := by decide +kernel
theorem dX3_foretell_145 : decode cX3_foretell 145 = .ok (.iconst 4, 1) := by decide +kernel
theorem dX3_foretell_146 : decode cX3_foretell 146 = .ok (.if_icmp .ne 23, 3) := by decide +kernel
theorem dX3_foretell_149 : decode cX3_foretell 149 = .ok (.aload_n 0, 1) := by decide +kernel
theorem dX3_foretell_150 : decode cX3_foretell 150 = .ok (.getfield 11, 3) := by decide +kernel
theorem dX3_foretell_153 : decode cX3_foretell 153 = .ok (.iload 4, 2) := by decide +kernel
theorem dX3_foretell_155 : decode cX3_foretell 155 = .ok (.aaload, 1) := by decide +kernel
theorem dX3_foretell_156 : decode cX3_foretell 156 = .ok (.iload_n 3, 1) := by decide +kernel
theorem dX3_foretell_157 : decode cX3_foretell 157 = .ok (.iload_n 2, 1) := by decide +kernel
theorem dX3_foretell_158 : decode cX3_foretell 158 = .ok (.if_icmp .le 7, 3) := by decide +kernel
theorem dX3_foretell_161 : decode cX3_foretell 161 = .ok (.iconst 1, 1) := by decide +kernel
theorem dX3_foretell_162 : decode cX3_foretell 162 = .ok (.goto 4, 3) := by decide +kernel
theorem dX3_foretell_165 : decode cX3_foretell 165 = .ok (.iconst 0, 1) := by decide +kernel
theorem dX3_foretell_166 : decode cX3_foretell 166 = .ok (.putfield 111, 3) := by decide +kernel
theorem dX3_foretell_169 : decode cX3_foretell 169 = .ok (.iinc 4 1, 3) := by decide +kernel
theorem dX3_foretell_172 : decode cX3_foretell 172 = .ok (.goto (-46), 3) := by decide +kernel
theorem dX3_foretell_175 : decode cX3_foretell 175 = .ok (.return_, 1) := by decide +kernel
theorem dX3_stakesOn_0 : decode cX3_stakesOn 0 = .ok (.iconst 0, 1) := by decide +kernel
theorem dX3_stakesOn_1 : decode cX3_stakesOn 1 = .ok (.istore_n 2, 1) := by decide +kernel
theorem dX3_stakesOn_2 : decode cX3_stakesOn 2 = .ok (.iconst 0, 1) := by decide +kernel
theorem dX3_stakesOn_3 : decode cX3_stakesOn 3 = .ok (.istore_n 3, 1) := by decide +kernel
theorem dX3_stakesOn_4 : decode cX3_stakesOn 4 = .ok (.iload_n 3, 1) := by decide +kernel
theorem dX3_stakesOn_5 : decode cX3_stakesOn 5 = .ok (.aload_n 0, 1) := by decide +kernel
theorem dX3_stakesOn_6 : decode cX3_stakesOn 6 = .ok (.getfield 32, 3) := by decide +kernel
theorem dX3_stakesOn_9 : decode cX3_stakesOn 9 = .ok (.if_icmp .ge 34, 3) := by decide +kernel
theorem dX3_stakesOn_12 : decode cX3_stakesOn 12 = .ok (.aload_n 0, 1) := by decide +kernel
theorem dX3_stakesOn_13 : decode cX3_stakesOn 13 = .ok (.getfield 11, 3) := by decide +kernel
theorem dX3_stakesOn_16 : decode cX3_stakesOn 16 = .ok (.iload_n 3, 1) := by decide +kernel
theorem dX3_stakesOn_17 : decode cX3_stakesOn 17 = .ok (.aaload, 1) := by decide +kernel
theorem dX3_stakesOn_18 : decode cX3_stakesOn 18 = .ok (.getfield 111, 3) := by decide +kernel
theorem dX3_stakesOn_21 : decode cX3_stakesOn 21 = .ok (.iload_n 1, 1) := by decide +kernel
theorem dX3_stakesOn_22 : decode cX3_stakesOn 22 = .ok (.if_icmp .ne 15, 3) := by decide +kernel
theorem dX3_stakesOn_25 : decode cX3_stakesOn 25 = .ok (.iload_n 2, 1) := by decide +kernel
theorem dX3_stakesOn_26 : decode cX3_stakesOn 26 = .ok (.aload_n 0, 1) := by decide +kernel
theorem dX3_stakesOn_27 : decode cX3_stakesOn 27 = .ok (.getfield 11, 3) := by decide +kernel
theorem dX3_stakesOn_30 : decode cX3_stakesOn 30 = .ok (.iload_n 3, 1) := by decide +kernel
theorem dX3_stakesOn_31 : decode cX3_stakesOn 31 = .ok (.aaload, 1) := by decide +kernel
theorem dX3_stakesOn_32 : decode cX3_stakesOn 32 = .ok (.getfield 101, 3) := by decide +kernel
theorem dX3_stakesOn_35 : decode cX3_stakesOn 35 = .ok (.iadd, 1) := by decide +kernel
theorem dX3_stakesOn_36 : decode cX3_stakesOn 36 = .ok (.istore_n 2, 1) := by decide +kernel
theorem dX3_stakesOn_37 : decode cX3_stakesOn 37 = .ok (.iinc 3 1, 3) := by decide +kernel
theorem dX3_stakesOn_40 : decode cX3_stakesOn 40 = .ok (.goto (-36), 3) := by decide +kernel
theorem dX3_stakesOn_43 : decode cX3_stakesOn 43 = .ok (.iload_n 2, 1) := by decide +kernel
theorem dX3_stakesOn_44 : decode cX3_stakesOn 44 = .ok (.ireturn, 1) := by decide +kernel
theorem dX3_runBranch_0 : decode cX3_runBranch 0 = .ok (.aload_n 0, 1) := by decide +kernel
theorem dX3_runBranch_1 : decode cX3_runBranch 1 = .ok (.iload_n 1, 1) := by decide +kernel
theorem dX3_runBranch_2 : decode cX3_runBranch 2 = .ok (.invokevirtual 117, 3) := by decide +kernel
theorem dX3_runBranch_5 : decode cX3_runBranch 5 = .ok (.aload_n 0, 1) := by decide +kernel
theorem dX3_runBranch_6 : decode cX3_runBranch 6 = .ok (.iload_n 2, 1) := by decide +kernel
theorem dX3_runBranch_7 : decode cX3_runBranch 7 = .ok (.invokevirtual 121, 3) := by decide +kernel
theorem dX3_runBranch_10 : decode cX3_runBranch 10 = .ok (.istore_n 3, 1) := by decide +kernel
theorem dX3_runBranch_11 : decode cX3_runBranch 11 = .ok (.aload_n 0, 1) := by decide +kernel
theorem dX3_runBranch_12 : decode cX3_runBranch 12 = .ok (.iload_n 2, 1) := by decide +kernel
theorem dX3_runBranch_13 : decode cX3_runBranch 13 = .ok (.invokevirtual 125, 3) := by decide +kernel
theorem dX3_runBranch_16 : decode cX3_runBranch 16 = .ok (.aload_n 0, 1) := by decide +kernel
theorem dX3_runBranch_17 : decode cX3_runBranch 17 = .ok (.iload_n 1, 1) := by decide +kernel
theorem dX3_runBranch_18 : decode cX3_runBranch 18 = .ok (.iload_n 2, 1) := by decide +kernel
theorem dX3_runBranch_19 : decode cX3_runBranch 19 = .ok (.invokevirtual 128, 3) := by decide +kernel
theorem dX3_runBranch_22 : decode cX3_runBranch 22 = .ok (.iload_n 3, 1) := by decide +kernel
theorem dX3_runBranch_23 : decode cX3_runBranch 23 = .ok (.ireturn, 1) := by decide +kernel
theorem dX3_settleBets_0 : decode cX3_settleBets 0 = .ok (.aload_n 0, 1) := by decide +kernel
theorem dX3_settleBets_1 : decode cX3_settleBets 1 = .ok (.iconst 1, 1) := by decide +kernel
theorem dX3_settleBets_2 : decode cX3_settleBets 2 = .ok (.iload_n 1, 1) := by decide +kernel
theorem dX3_settleBets_3 : decode cX3_settleBets 3 = .ok (.isub, 1) := by decide +kernel
theorem dX3_settleBets_4 : decode cX3_settleBets 4 = .ok (.invokevirtual 132, 3) := by decide +kernel
theorem dX3_settleBets_7 : decode cX3_settleBets 7 = .ok (.istore_n 2, 1) := by decide +kernel
theorem dX3_settleBets_8 : decode cX3_settleBets 8 = .ok (.aload_n 0, 1) := by decide +kernel
theorem dX3_settleBets_9 : decode cX3_settleBets 9 = .ok (.iload_n 1, 1) := by decide +kernel
theorem dX3_settleBets_10 : decode cX3_settleBets 10 = .ok (.invokevirtual 132, 3) := by decide +kernel
theorem dX3_settleBets_13 : decode cX3_settleBets 13 = .ok (.istore_n 3, 1) := by decide +kernel
theorem dX3_settleBets_14 : decode cX3_settleBets 14 = .ok (.iload_n 2, 1) := by decide +kernel
theorem dX3_settleBets_15 : decode cX3_settleBets 15 = .ok (.ifCond .le 7, 3) := by decide +kernel
theorem dX3_settleBets_18 : decode cX3_settleBets 18 = .ok (.iload_n 3, 1) := by decide +kernel
theorem dX3_settleBets_19 : decode cX3_settleBets 19 = .ok (.ifCond .gt 5, 3) := by decide +kernel
theorem dX3_settleBets_22 : decode cX3_settleBets 22 = .ok (.iconst 0, 1) := by decide +kernel
theorem dX3_settleBets_23 : decode cX3_settleBets 23 = .ok (.ireturn, 1) := by decide +kernel
theorem dX3_settleBets_24 : decode cX3_settleBets 24 = .ok (.aload_n 0, 1) := by decide +kernel
theorem dX3_settleBets_25 : decode cX3_settleBets 25 = .ok (.dup, 1) := by decide +kernel
theorem dX3_settleBets_26 : decode cX3_settleBets 26 = .ok (.getfield 61, 3) := by decide +kernel
theorem dX3_settleBets_29 : decode cX3_settleBets 29 = .ok (.iconst 1, 1) := by decide +kernel
theorem dX3_settleBets_30 : decode cX3_settleBets 30 = .ok (.iadd, 1) := by decide +kernel
theorem dX3_settleBets_31 : decode cX3_settleBets 31 = .ok (.putfield 61, 3) := by decide +kernel
theorem dX3_settleBets_34 : decode cX3_settleBets 34 = .ok (.iload_n 2, 1) := by decide +kernel
theorem dX3_settleBets_35 : decode cX3_settleBets 35 = .ok (.iload_n 2, 1) := by decide +kernel
theorem dX3_settleBets_36 : decode cX3_settleBets 36 = .ok (.aload_n 0, 1) := by decide +kernel
theorem dX3_settleBets_37 : decode cX3_settleBets 37 = .ok (.getfield 25, 3) := by decide +kernel
theorem dX3_settleBets_40 : decode cX3_settleBets 40 = .ok (.iconst 1, 1) := by decide +kernel
theorem dX3_settleBets_41 : decode cX3_settleBets 41 = .ok (.iaload, 1) := by decide +kernel
theorem dX3_settleBets_42 : decode cX3_settleBets 42 = .ok (.imul, 1) := by decide +kernel
theorem dX3_settleBets_43 : decode cX3_settleBets 43 = .ok (.bipush 100, 2) := by decide +kernel
theorem dX3_settleBets_45 : decode cX3_settleBets 45 = .ok (.idiv, 1) := by decide +kernel
theorem dX3_settleBets_46 : decode cX3_settleBets 46 = .ok (.isub, 1) := by decide +kernel
theorem dX3_settleBets_47 : decode cX3_settleBets 47 = .ok (.istore 4, 2) := by decide +kernel
theorem dX3_settleBets_49 : decode cX3_settleBets 49 = .ok (.iconst 0, 1) := by decide +kernel
theorem dX3_settleBets_50 : decode cX3_settleBets 50 = .ok (.istore 5, 2) := by decide +kernel
theorem dX3_settleBets_52 : decode cX3_settleBets 52 = .ok (.iconst 0, 1) := by decide +kernel
theorem dX3_settleBets_53 : decode cX3_settleBets 53 = .ok (.istore 6, 2) := by decide +kernel
theorem dX3_settleBets_55 : decode cX3_settleBets 55 = .ok (.iload 6, 2) := by decide +kernel
theorem dX3_settleBets_57 : decode cX3_settleBets 57 = .ok (.aload_n 0, 1) := by decide +kernel
theorem dX3_settleBets_58 : decode cX3_settleBets 58 = .ok (.getfield 32, 3) := by decide +kernel
theorem dX3_settleBets_61 : decode cX3_settleBets 61 = .ok (.if_icmp .ge 84, 3) := by decide +kernel
theorem dX3_settleBets_64 : decode cX3_settleBets 64 = .ok (.aload_n 0, 1) := by decide +kernel
theorem dX3_settleBets_65 : decode cX3_settleBets 65 = .ok (.getfield 11, 3) := by decide +kernel
theorem dX3_settleBets_68 : decode cX3_settleBets 68 = .ok (.iload 6, 2) := by decide +kernel
theorem dX3_settleBets_70 : decode cX3_settleBets 70 = .ok (.aaload, 1) := by decide +kernel
theorem dX3_settleBets_71 : decode cX3_settleBets 71 = .ok (.astore 7, 2) := by decide +kernel
theorem dX3_settleBets_73 : decode cX3_settleBets 73 = .ok (.aload 7, 2) := by decide +kernel
theorem dX3_settleBets_75 : decode cX3_settleBets 75 = .ok (.getfield 111, 3) := by decide +kernel
theorem dX3_settleBets_78 : decode cX3_settleBets 78 = .ok (.iload_n 1, 1) := by decide +kernel
theorem dX3_settleBets_79 : decode cX3_settleBets 79 = .ok (.if_icmp .ne 45, 3) := by decide +kernel
theorem dX3_settleBets_82 : decode cX3_settleBets 82 = .ok (.iload 4, 2) := by decide +kernel
theorem dX3_settleBets_84 : decode cX3_settleBets 84 = .ok (.aload 7, 2) := by decide +kernel
theorem dX3_settleBets_86 : decode cX3_settleBets 86 = .ok (.getfield 101, 3) := by decide +kernel
theorem dX3_settleBets_89 : decode cX3_settleBets 89 = .ok (.imul, 1) := by decide +kernel
theorem dX3_settleBets_90 : decode cX3_settleBets 90 = .ok (.iload_n 3, 1) := by decide +kernel
theorem dX3_settleBets_91 : decode cX3_settleBets 91 = .ok (.idiv, 1) := by decide +kernel
theorem dX3_settleBets_92 : decode cX3_settleBets 92 = .ok (.istore 8, 2) := by decide +kernel
theorem dX3_settleBets_94 : decode cX3_settleBets 94 = .ok (.aload 7, 2) := by decide +kernel
theorem dX3_settleBets_96 : decode cX3_settleBets 96 = .ok (.dup, 1) := by decide +kernel
theorem dX3_settleBets_97 : decode cX3_settleBets 97 = .ok (.getfield 85, 3) := by decide +kernel
theorem dX3_settleBets_100 : decode cX3_settleBets 100 = .ok (.iload 8, 2) := by decide +kernel
theorem dX3_settleBets_102 : decode cX3_settleBets 102 = .ok (.iadd, 1) := by decide +kernel
theorem dX3_settleBets_103 : decode cX3_settleBets 103 = .ok (.putfield 85, 3) := by decide +kernel
theorem dX3_settleBets_106 : decode cX3_settleBets 106 = .ok (.iload 5, 2) := by decide +kernel
theorem dX3_settleBets_108 : decode cX3_settleBets 108 = .ok (.iload 8, 2) := by decide +kernel
theorem dX3_settleBets_110 : decode cX3_settleBets 110 = .ok (.iadd, 1) := by decide +kernel
theorem dX3_settleBets_111 : decode cX3_settleBets 111 = .ok (.istore 5, 2) := by decide +kernel
theorem dX3_settleBets_113 : decode cX3_settleBets 113 = .ok (.aload_n 0, 1) := by decide +kernel
theorem dX3_settleBets_114 : decode cX3_settleBets 114 = .ok (.iload 6, 2) := by decide +kernel
theorem dX3_settleBets_116 : decode cX3_settleBets 116 = .ok (.iload 8, 2) := by decide +kernel
theorem dX3_settleBets_118 : decode cX3_settleBets 118 = .ok (.invokevirtual 135, 3) := by decide +kernel
theorem dX3_settleBets_121 : decode cX3_settleBets 121 = .ok (.goto 18, 3) := by decide +kernel
theorem dX3_settleBets_124 : decode cX3_settleBets 124 = .ok (.aload 7, 2) := by decide +kernel
theorem dX3_settleBets_126 : decode cX3_settleBets 126 = .ok (.dup, 1) := by decide +kernel
theorem dX3_settleBets_127 : decode cX3_settleBets 127 = .ok (.getfield 85, 3) := by decide +kernel
theorem dX3_settleBets_130 : decode cX3_settleBets 130 = .ok (.aload 7, 2) := by decide +kernel
theorem dX3_settleBets_132 : decode cX3_settleBets 132 = .ok (.getfield 101, 3) := by decide +kernel
theorem dX3_settleBets_135 : decode cX3_settleBets 135 = .ok (.isub, 1) := by decide +kernel
theorem dX3_settleBets_136 : decode cX3_settleBets 136 = .ok (.putfield 85, 3) := by decide +kernel
theorem dX3_settleBets_139 : decode cX3_settleBets 139 = .ok (.iinc 6 1, 3) := by decide +kernel
theorem dX3_settleBets_142 : decode cX3_settleBets 142 = .ok (.goto (-87), 3) := by decide +kernel
theorem dX3_settleBets_145 : decode cX3_settleBets 145 = .ok (.aload_n 0, 1) := by decide +kernel
theorem dX3_settleBets_146 : decode cX3_settleBets 146 = .ok (.dup, 1) := by decide +kernel
theorem dX3_settleBets_147 : decode cX3_settleBets 147 = .ok (.getfield 52, 3) := by decide +kernel
theorem dX3_settleBets_150 : decode cX3_settleBets 150 = .ok (.iload_n 2, 1) := by decide +kernel
theorem dX3_settleBets_151 : decode cX3_settleBets 151 = .ok (.iload 5, 2) := by decide +kernel
theorem dX3_settleBets_153 : decode cX3_settleBets 153 = .ok (.isub, 1) := by decide +kernel
theorem dX3_settleBets_154 : decode cX3_settleBets 154 = .ok (.iadd, 1) := by decide +kernel
theorem dX3_settleBets_155 : decode cX3_settleBets 155 = .ok (.putfield 52, 3) := by decide +kernel
theorem dX3_settleBets_158 : decode cX3_settleBets 158 = .ok (.aload_n 0, 1) := by decide +kernel
theorem dX3_settleBets_159 : decode cX3_settleBets 159 = .ok (.invokevirtual 138, 3) := by decide +kernel
theorem dX3_settleBets_162 : decode cX3_settleBets 162 = .ok (.iload_n 2, 1) := by decide +kernel
theorem dX3_settleBets_163 : decode cX3_settleBets 163 = .ok (.ireturn, 1) := by decide +kernel
theorem dX3_payCreditors_0 : decode cX3_payCreditors 0 = .ok (.iload_n 2, 1) := by decide +kernel
theorem dX3_payCreditors_1 : decode cX3_payCreditors 1 = .ok (.aload_n 0, 1) := by decide +kernel
theorem dX3_payCreditors_2 : decode cX3_payCreditors 2 = .ok (.getfield 25, 3) := by decide +kernel
theorem dX3_payCreditors_5 : decode cX3_payCreditors 5 = .ok (.iconst 2, 1) := by decide +kernel
theorem dX3_payCreditors_6 : decode cX3_payCreditors 6 = .ok (.iaload, 1) := by decide +kernel
theorem dX3_payCreditors_7 : decode cX3_payCreditors 7 = .ok (.imul, 1) := by decide +kernel
theorem dX3_payCreditors_8 : decode cX3_payCreditors 8 = .ok (.bipush 100, 2) := by decide +kernel
theorem dX3_payCreditors_10 : decode cX3_payCreditors 10 = .ok (.idiv, 1) := by decide +kernel
theorem dX3_payCreditors_11 : decode cX3_payCreditors 11 = .ok (.istore_n 3, 1) := by decide +kernel
theorem dX3_payCreditors_12 : decode cX3_payCreditors 12 = .ok (.iconst 0, 1) := by decide +kernel
theorem dX3_payCreditors_13 : decode cX3_payCreditors 13 = .ok (.istore 4, 2) := by decide +kernel
theorem dX3_payCreditors_15 : decode cX3_payCreditors 15 = .ok (.iload 4, 2) := by decide +kernel
theorem dX3_payCreditors_17 : decode cX3_payCreditors 17 = .ok (.aload_n 0, 1) := by decide +kernel
theorem dX3_payCreditors_18 : decode cX3_payCreditors 18 = .ok (.getfield 40, 3) := by decide +kernel
theorem dX3_payCreditors_21 : decode cX3_payCreditors 21 = .ok (.if_icmp .ge 95, 3) := by decide +kernel
theorem dX3_payCreditors_24 : decode cX3_payCreditors 24 = .ok (.iload_n 3, 1) := by decide +kernel
theorem dX3_payCreditors_25 : decode cX3_payCreditors 25 = .ok (.ifCond .le 91, 3) := by decide +kernel
theorem dX3_payCreditors_28 : decode cX3_payCreditors 28 = .ok (.aload_n 0, 1) := by decide +kernel
theorem dX3_payCreditors_29 : decode cX3_payCreditors 29 = .ok (.getfield 20, 3) := by decide +kernel
theorem dX3_payCreditors_32 : decode cX3_payCreditors 32 = .ok (.iload 4, 2) := by decide +kernel
theorem dX3_payCreditors_34 : decode cX3_payCreditors 34 = .ok (.aaload, 1) := by decide +kernel
theorem dX3_payCreditors_35 : decode cX3_payCreditors 35 = .ok (.astore 5, 2) := by decide +kernel
theorem dX3_payCreditors_37 : decode cX3_payCreditors 37 = .ok (.aload 5, 2) := by decide +kernel
theorem dX3_payCreditors_39 : decode cX3_payCreditors 39 = .ok (.getfield 91, 3) := by decide +kernel
theorem dX3_payCreditors_42 : decode cX3_payCreditors 42 = .ok (.iload_n 1, 1) := by decide +kernel
theorem dX3_payCreditors_43 : decode cX3_payCreditors 43 = .ok (.if_icmp .ne 67, 3) := by decide +kernel
theorem dX3_payCreditors_46 : decode cX3_payCreditors 46 = .ok (.iload_n 3, 1) := by decide +kernel
theorem dX3_payCreditors_47 : decode cX3_payCreditors 47 = .ok (.aload 5, 2) := by decide +kernel
theorem dX3_payCreditors_49 : decode cX3_payCreditors 49 = .ok (.getfield 94, 3) := by decide +kernel
theorem dX3_payCreditors_52 : decode cX3_payCreditors 52 = .ok (.invokestatic 141, 3) := by decide +kernel
theorem dX3_payCreditors_55 : decode cX3_payCreditors 55 = .ok (.istore 6, 2) := by decide +kernel
theorem dX3_payCreditors_57 : decode cX3_payCreditors 57 = .ok (.iload_n 3, 1) := by decide +kernel
theorem dX3_payCreditors_58 : decode cX3_payCreditors 58 = .ok (.iload 6, 2) := by decide +kernel
theorem dX3_payCreditors_60 : decode cX3_payCreditors 60 = .ok (.isub, 1) := by decide +kernel
theorem dX3_payCreditors_61 : decode cX3_payCreditors 61 = .ok (.istore_n 3, 1) := by decide +kernel
theorem dX3_payCreditors_62 : decode cX3_payCreditors 62 = .ok (.aload 5, 2) := by decide +kernel
theorem dX3_payCreditors_64 : decode cX3_payCreditors 64 = .ok (.dup, 1) := by decide +kernel
theorem dX3_payCreditors_65 : decode cX3_payCreditors 65 = .ok (.getfield 94, 3) := by decide +kernel
theorem dX3_payCreditors_68 : decode cX3_payCreditors 68 = .ok (.iload 6, 2) := by decide +kernel
theorem dX3_payCreditors_70 : decode cX3_payCreditors 70 = .ok (.isub, 1) := by decide +kernel
theorem dX3_payCreditors_71 : decode cX3_payCreditors 71 = .ok (.putfield 94, 3) := by decide +kernel
theorem dX3_payCreditors_74 : decode cX3_payCreditors 74 = .ok (.aload_n 0, 1) := by decide +kernel
theorem dX3_payCreditors_75 : decode cX3_payCreditors 75 = .ok (.getfield 11, 3) := by decide +kernel
theorem dX3_payCreditors_78 : decode cX3_payCreditors 78 = .ok (.iload_n 1, 1) := by decide +kernel
theorem dX3_payCreditors_79 : decode cX3_payCreditors 79 = .ok (.aaload, 1) := by decide +kernel
theorem dX3_payCreditors_80 : decode cX3_payCreditors 80 = .ok (.dup, 1) := by decide +kernel
theorem dX3_payCreditors_81 : decode cX3_payCreditors 81 = .ok (.getfield 85, 3) := by decide +kernel
theorem dX3_payCreditors_84 : decode cX3_payCreditors 84 = .ok (.iload 6, 2) := by decide +kernel
theorem dX3_payCreditors_86 : decode cX3_payCreditors 86 = .ok (.isub, 1) := by decide +kernel
theorem dX3_payCreditors_87 : decode cX3_payCreditors 87 = .ok (.putfield 85, 3) := by decide +kernel
theorem dX3_payCreditors_90 : decode cX3_payCreditors 90 = .ok (.aload_n 0, 1) := by decide +kernel
theorem dX3_payCreditors_91 : decode cX3_payCreditors 91 = .ok (.getfield 11, 3) := by decide +kernel
theorem dX3_payCreditors_94 : decode cX3_payCreditors 94 = .ok (.aload 5, 2) := by decide +kernel
theorem dX3_payCreditors_96 : decode cX3_payCreditors 96 = .ok (.getfield 88, 3) := by decide +kernel
theorem dX3_payCreditors_99 : decode cX3_payCreditors 99 = .ok (.aaload, 1) := by decide +kernel
theorem dX3_payCreditors_100 : decode cX3_payCreditors 100 = .ok (.dup, 1) := by decide +kernel
theorem dX3_payCreditors_101 : decode cX3_payCreditors 101 = .ok (.getfield 85, 3) := by decide +kernel
theorem dX3_payCreditors_104 : decode cX3_payCreditors 104 = .ok (.iload 6, 2) := by decide +kernel
theorem dX3_payCreditors_106 : decode cX3_payCreditors 106 = .ok (.iadd, 1) := by decide +kernel
theorem dX3_payCreditors_107 : decode cX3_payCreditors 107 = .ok (.putfield 85, 3) := by decide +kernel
theorem dX3_payCreditors_110 : decode cX3_payCreditors 110 = .ok (.iinc 4 1, 3) := by decide +kernel
theorem dX3_payCreditors_113 : decode cX3_payCreditors 113 = .ok (.goto (-98), 3) := by decide +kernel
theorem dX3_payCreditors_116 : decode cX3_payCreditors 116 = .ok (.return_, 1) := by decide +kernel
theorem dX3_dropLoansPaidBack_0 : decode cX3_dropLoansPaidBack 0 = .ok (.iconst 0, 1) := by decide +kernel
theorem dX3_dropLoansPaidBack_1 : decode cX3_dropLoansPaidBack 1 = .ok (.istore_n 1, 1) := by decide +kernel
theorem dX3_dropLoansPaidBack_2 : decode cX3_dropLoansPaidBack 2 = .ok (.iconst 0, 1) := by decide +kernel
theorem dX3_dropLoansPaidBack_3 : decode cX3_dropLoansPaidBack 3 = .ok (.istore_n 2, 1) := by decide +kernel
theorem dX3_dropLoansPaidBack_4 : decode cX3_dropLoansPaidBack 4 = .ok (.iload_n 2, 1) := by decide +kernel
theorem dX3_dropLoansPaidBack_5 : decode cX3_dropLoansPaidBack 5 = .ok (.aload_n 0, 1) := by decide +kernel
theorem dX3_dropLoansPaidBack_6 : decode cX3_dropLoansPaidBack 6 = .ok (.getfield 40, 3) := by decide +kernel
theorem dX3_dropLoansPaidBack_9 : decode cX3_dropLoansPaidBack 9 = .ok (.if_icmp .ge 39, 3) := by decide +kernel
theorem dX3_dropLoansPaidBack_12 : decode cX3_dropLoansPaidBack 12 = .ok (.aload_n 0, 1) := by decide +kernel
theorem dX3_dropLoansPaidBack_13 : decode cX3_dropLoansPaidBack 13 = .ok (.getfield 20, 3) := by decide +kernel
theorem dX3_dropLoansPaidBack_16 : decode cX3_dropLoansPaidBack 16 = .ok (.iload_n 2, 1) := by decide +kernel
theorem dX3_dropLoansPaidBack_17 : decode cX3_dropLoansPaidBack 17 = .ok (.aaload, 1) := by decide +kernel
theorem dX3_dropLoansPaidBack_18 : decode cX3_dropLoansPaidBack 18 = .ok (.getfield 94, 3) := by decide +kernel
theorem dX3_dropLoansPaidBack_21 : decode cX3_dropLoansPaidBack 21 = .ok (.ifCond .le 21, 3) := by decide +kernel
theorem dX3_dropLoansPaidBack_24 : decode cX3_dropLoansPaidBack 24 = .ok (.aload_n 0, 1) := by decide +kernel
theorem dX3_dropLoansPaidBack_25 : decode cX3_dropLoansPaidBack 25 = .ok (.getfield 20, 3) := by decide +kernel
theorem dX3_dropLoansPaidBack_28 : decode cX3_dropLoansPaidBack 28 = .ok (.iload_n 1, 1) := by decide +kernel
theorem dX3_dropLoansPaidBack_29 : decode cX3_dropLoansPaidBack 29 = .ok (.aaload, 1) := by decide +kernel
theorem dX3_dropLoansPaidBack_30 : decode cX3_dropLoansPaidBack 30 = .ok (.aload_n 0, 1) := by decide +kernel
theorem dX3_dropLoansPaidBack_31 : decode cX3_dropLoansPaidBack 31 = .ok (.getfield 20, 3) := by decide +kernel
theorem dX3_dropLoansPaidBack_34 : decode cX3_dropLoansPaidBack 34 = .ok (.iload_n 2, 1) := by decide +kernel
theorem dX3_dropLoansPaidBack_35 : decode cX3_dropLoansPaidBack 35 = .ok (.aaload, 1) := by decide +kernel
theorem dX3_dropLoansPaidBack_36 : decode cX3_dropLoansPaidBack 36 = .ok (.invokevirtual 43, 3) := by decide +kernel
theorem dX3_dropLoansPaidBack_39 : decode cX3_dropLoansPaidBack 39 = .ok (.iinc 1 1, 3) := by decide +kernel
theorem dX3_dropLoansPaidBack_42 : decode cX3_dropLoansPaidBack 42 = .ok (.iinc 2 1, 3) := by decide +kernel
theorem dX3_dropLoansPaidBack_45 : decode cX3_dropLoansPaidBack 45 = .ok (.goto (-41), 3) := by decide +kernel
theorem dX3_dropLoansPaidBack_48 : decode cX3_dropLoansPaidBack 48 = .ok (.aload_n 0, 1) := by decide +kernel
theorem dX3_dropLoansPaidBack_49 : decode cX3_dropLoansPaidBack 49 = .ok (.iload_n 1, 1) := by decide +kernel
theorem dX3_dropLoansPaidBack_50 : decode cX3_dropLoansPaidBack 50 = .ok (.putfield 40, 3) := by decide +kernel
theorem dX3_dropLoansPaidBack_53 : decode cX3_dropLoansPaidBack 53 = .ok (.return_, 1) := by decide +kernel
theorem dX3_keepRecords_0 : decode cX3_keepRecords 0 = .ok (.iconst 0, 1) := by decide +kernel
theorem dX3_keepRecords_1 : decode cX3_keepRecords 1 = .ok (.istore_n 2, 1) := by decide +kernel
theorem dX3_keepRecords_2 : decode cX3_keepRecords 2 = .ok (.iload_n 2, 1) := by decide +kernel
theorem dX3_keepRecords_3 : decode cX3_keepRecords 3 = .ok (.aload_n 0, 1) := by decide +kernel
theorem dX3_keepRecords_4 : decode cX3_keepRecords 4 = .ok (.getfield 32, 3) := by decide +kernel
theorem dX3_keepRecords_7 : decode cX3_keepRecords 7 = .ok (.if_icmp .ge 48, 3) := by decide +kernel
theorem dX3_keepRecords_10 : decode cX3_keepRecords 10 = .ok (.aload_n 0, 1) := by decide +kernel
theorem dX3_keepRecords_11 : decode cX3_keepRecords 11 = .ok (.getfield 11, 3) := by decide +kernel
theorem dX3_keepRecords_14 : decode cX3_keepRecords 14 = .ok (.iload_n 2, 1) := by decide +kernel
theorem dX3_keepRecords_15 : decode cX3_keepRecords 15 = .ok (.aaload, 1) := by decide +kernel
theorem dX3_keepRecords_16 : decode cX3_keepRecords 16 = .ok (.getfield 101, 3) := by decide +kernel
theorem dX3_keepRecords_19 : decode cX3_keepRecords 19 = .ok (.ifCond .le 30, 3) := by decide +kernel
theorem dX3_keepRecords_22 : decode cX3_keepRecords 22 = .ok (.aload_n 0, 1) := by decide +kernel
theorem dX3_keepRecords_23 : decode cX3_keepRecords 23 = .ok (.getfield 11, 3) := by decide +kernel
theorem dX3_keepRecords_26 : decode cX3_keepRecords 26 = .ok (.iload_n 2, 1) := by decide +kernel
theorem dX3_keepRecords_27 : decode cX3_keepRecords 27 = .ok (.aaload, 1) := by decide +kernel
theorem dX3_keepRecords_28 : decode cX3_keepRecords 28 = .ok (.aload_n 0, 1) := by decide +kernel
theorem dX3_keepRecords_29 : decode cX3_keepRecords 29 = .ok (.getfield 11, 3) := by decide +kernel
theorem dX3_keepRecords_32 : decode cX3_keepRecords 32 = .ok (.iload_n 2, 1) := by decide +kernel
theorem dX3_keepRecords_33 : decode cX3_keepRecords 33 = .ok (.aaload, 1) := by decide +kernel
theorem dX3_keepRecords_34 : decode cX3_keepRecords 34 = .ok (.getfield 111, 3) := by decide +kernel
theorem dX3_keepRecords_37 : decode cX3_keepRecords 37 = .ok (.iload_n 1, 1) := by decide +kernel
theorem dX3_keepRecords_38 : decode cX3_keepRecords 38 = .ok (.if_icmp .ne 7, 3) := by decide +kernel
theorem dX3_keepRecords_41 : decode cX3_keepRecords 41 = .ok (.iconst 1, 1) := by decide +kernel
theorem dX3_keepRecords_42 : decode cX3_keepRecords 42 = .ok (.goto 4, 3) := by decide +kernel
theorem dX3_keepRecords_45 : decode cX3_keepRecords 45 = .ok (.iconst 0, 1) := by decide +kernel
theorem dX3_keepRecords_46 : decode cX3_keepRecords 46 = .ok (.invokevirtual 146, 3) := by decide +kernel
theorem dX3_keepRecords_49 : decode cX3_keepRecords 49 = .ok (.iinc 2 1, 3) := by decide +kernel
theorem dX3_keepRecords_52 : decode cX3_keepRecords 52 = .ok (.goto (-50), 3) := by decide +kernel
theorem dX3_keepRecords_55 : decode cX3_keepRecords 55 = .ok (.return_, 1) := by decide +kernel
theorem dX3_learnFrom_0 : decode cX3_learnFrom 0 = .ok (.iconst 0, 1) := by decide +kernel
theorem dX3_learnFrom_1 : decode cX3_learnFrom 1 = .ok (.istore_n 3, 1) := by decide +kernel
theorem dX3_learnFrom_2 : decode cX3_learnFrom 2 = .ok (.iload_n 3, 1) := by decide +kernel
theorem dX3_learnFrom_3 : decode cX3_learnFrom 3 = .ok (.aload_n 0, 1) := by decide +kernel
theorem dX3_learnFrom_4 : decode cX3_learnFrom 4 = .ok (.getfield 32, 3) := by decide +kernel
theorem dX3_learnFrom_7 : decode cX3_learnFrom 7 = .ok (.if_icmp .ge 36, 3) := by decide +kernel
theorem dX3_learnFrom_10 : decode cX3_learnFrom 10 = .ok (.aload_n 0, 1) := by decide +kernel
theorem dX3_learnFrom_11 : decode cX3_learnFrom 11 = .ok (.getfield 11, 3) := by decide +kernel
theorem dX3_learnFrom_14 : decode cX3_learnFrom 14 = .ok (.iload_n 3, 1) := by decide +kernel
theorem dX3_learnFrom_15 : decode cX3_learnFrom 15 = .ok (.aaload, 1) := by decide +kernel
theorem dX3_learnFrom_16 : decode cX3_learnFrom 16 = .ok (.invokevirtual 150, 3) := by decide +kernel
theorem dX3_learnFrom_19 : decode cX3_learnFrom 19 = .ok (.ifCond .eq 18, 3) := by decide +kernel
theorem dX3_learnFrom_22 : decode cX3_learnFrom 22 = .ok (.aload_n 0, 1) := by decide +kernel
theorem dX3_learnFrom_23 : decode cX3_learnFrom 23 = .ok (.getfield 11, 3) := by decide +kernel
theorem dX3_learnFrom_26 : decode cX3_learnFrom 26 = .ok (.iload_n 3, 1) := by decide +kernel
theorem dX3_learnFrom_27 : decode cX3_learnFrom 27 = .ok (.aaload, 1) := by decide +kernel
theorem dX3_learnFrom_28 : decode cX3_learnFrom 28 = .ok (.iload_n 1, 1) := by decide +kernel
theorem dX3_learnFrom_29 : decode cX3_learnFrom 29 = .ok (.iload_n 2, 1) := by decide +kernel
theorem dX3_learnFrom_30 : decode cX3_learnFrom 30 = .ok (.aload_n 0, 1) := by decide +kernel
theorem dX3_learnFrom_31 : decode cX3_learnFrom 31 = .ok (.getfield 55, 3) := by decide +kernel
theorem dX3_learnFrom_34 : decode cX3_learnFrom 34 = .ok (.invokevirtual 153, 3) := by decide +kernel
theorem dX3_learnFrom_37 : decode cX3_learnFrom 37 = .ok (.iinc 3 1, 3) := by decide +kernel
theorem dX3_learnFrom_40 : decode cX3_learnFrom 40 = .ok (.goto (-38), 3) := by decide +kernel
theorem dX3_learnFrom_43 : decode cX3_learnFrom 43 = .ok (.aload_n 0, 1) := by decide +kernel
theorem dX3_learnFrom_44 : decode cX3_learnFrom 44 = .ok (.iconst 2, 1) := by decide +kernel
theorem dX3_learnFrom_45 : decode cX3_learnFrom 45 = .ok (.aload_n 0, 1) := by decide +kernel
theorem dX3_learnFrom_46 : decode cX3_learnFrom 46 = .ok (.getfield 55, 3) := by decide +kernel
theorem dX3_learnFrom_49 : decode cX3_learnFrom 49 = .ok (.imul, 1) := by decide +kernel
theorem dX3_learnFrom_50 : decode cX3_learnFrom 50 = .ok (.iload_n 2, 1) := by decide +kernel
theorem dX3_learnFrom_51 : decode cX3_learnFrom 51 = .ok (.iadd, 1) := by decide +kernel
theorem dX3_learnFrom_52 : decode cX3_learnFrom 52 = .ok (.sipush 255, 3) := by decide +kernel
theorem dX3_learnFrom_55 : decode cX3_learnFrom 55 = .ok (.iand, 1) := by decide +kernel
theorem dX3_learnFrom_56 : decode cX3_learnFrom 56 = .ok (.putfield 55, 3) := by decide +kernel
theorem dX3_learnFrom_59 : decode cX3_learnFrom 59 = .ok (.aload_n 0, 1) := by decide +kernel
theorem dX3_learnFrom_60 : decode cX3_learnFrom 60 = .ok (.dup, 1) := by decide +kernel
theorem dX3_learnFrom_61 : decode cX3_learnFrom 61 = .ok (.getfield 58, 3) := by decide +kernel
theorem dX3_learnFrom_64 : decode cX3_learnFrom 64 = .ok (.iconst 1, 1) := by decide +kernel
theorem dX3_learnFrom_65 : decode cX3_learnFrom 65 = .ok (.iadd, 1) := by decide +kernel
theorem dX3_learnFrom_66 : decode cX3_learnFrom 66 = .ok (.putfield 58, 3) := by decide +kernel
theorem dX3_learnFrom_69 : decode cX3_learnFrom 69 = .ok (.aload_n 0, 1) := by decide +kernel
theorem dX3_learnFrom_70 : decode cX3_learnFrom 70 = .ok (.dup, 1) := by decide +kernel
theorem dX3_learnFrom_71 : decode cX3_learnFrom 71 = .ok (.getfield 64, 3) := by decide +kernel
theorem dX3_learnFrom_74 : decode cX3_learnFrom 74 = .ok (.lconst 1, 1) := by decide +kernel
theorem dX3_learnFrom_75 : decode cX3_learnFrom 75 = .ok (.iload_n 1, 1) := by decide +kernel
theorem dX3_learnFrom_76 : decode cX3_learnFrom 76 = .ok (.lshl, 1) := by decide +kernel
theorem dX3_learnFrom_77 : decode cX3_learnFrom 77 = .ok (.lor, 1) := by decide +kernel
theorem dX3_learnFrom_78 : decode cX3_learnFrom 78 = .ok (.putfield 64, 3) := by decide +kernel
theorem dX3_learnFrom_81 : decode cX3_learnFrom 81 = .ok (.return_, 1) := by decide +kernel
theorem dX4_init_0 : decode cX4_init 0 = .ok (.aload_n 0, 1) := by decide +kernel
theorem dX4_init_1 : decode cX4_init 1 = .ok (.invokespecial 3, 3) := by decide +kernel
theorem dX4_init_4 : decode cX4_init 4 = .ok (.aload_n 0, 1) := by decide +kernel
theorem dX4_init_5 : decode cX4_init 5 = .ok (.bipush 80, 2) := by decide +kernel
theorem dX4_init_7 : decode cX4_init 7 = .ok (.newarray .char, 2) := by decide +kernel
theorem dX4_init_9 : decode cX4_init 9 = .ok (.putfield 9, 3) := by decide +kernel
theorem dX4_init_12 : decode cX4_init 12 = .ok (.aload_n 0, 1) := by decide +kernel
theorem dX4_init_13 : decode cX4_init 13 = .ok (.iconst 2, 1) := by decide +kernel
theorem dX4_init_14 : decode cX4_init 14 = .ok (.newarray .int, 2) := by decide +kernel
theorem dX4_init_16 : decode cX4_init 16 = .ok (.putfield 15, 3) := by decide +kernel
theorem dX4_init_19 : decode cX4_init 19 = .ok (.return_, 1) := by decide +kernel
theorem dJ9_max_7cf53_0 : decode cJ9_max_7cf53 0 = .ok (.iload_n 0, 1) := by decide +kernel
theorem dJ9_max_7cf53_1 : decode cJ9_max_7cf53 1 = .ok (.iload_n 1, 1) := by decide +kernel
theorem dJ9_max_7cf53_2 : decode cJ9_max_7cf53 2 = .ok (.if_icmp .lt 7, 3) := by decide +kernel
theorem dJ9_max_7cf53_5 : decode cJ9_max_7cf53 5 = .ok (.iload_n 0, 1) := by decide +kernel
theorem dJ9_max_7cf53_6 : decode cJ9_max_7cf53 6 = .ok (.goto 4, 3) := by decide +kernel
theorem dJ9_max_7cf53_9 : decode cJ9_max_7cf53 9 = .ok (.iload_n 1, 1) := by decide +kernel
theorem dJ9_max_7cf53_10 : decode cJ9_max_7cf53 10 = .ok (.ireturn, 1) := by decide +kernel
theorem dJ9_min_7cf53_0 : decode cJ9_min_7cf53 0 = .ok (.iload_n 0, 1) := by decide +kernel
theorem dJ9_min_7cf53_1 : decode cJ9_min_7cf53 1 = .ok (.iload_n 1, 1) := by decide +kernel
theorem dJ9_min_7cf53_2 : decode cJ9_min_7cf53 2 = .ok (.if_icmp .gt 7, 3) := by decide +kernel
theorem dJ9_min_7cf53_5 : decode cJ9_min_7cf53 5 = .ok (.iload_n 0, 1) := by decide +kernel
theorem dJ9_min_7cf53_6 : decode cJ9_min_7cf53 6 = .ok (.goto 4, 3) := by decide +kernel
theorem dJ9_min_7cf53_9 : decode cJ9_min_7cf53 9 = .ok (.iload_n 1, 1) := by decide +kernel
theorem dJ9_min_7cf53_10 : decode cJ9_min_7cf53 10 = .ok (.ireturn, 1) := by decide +kernel
end
section
/-! decode rows (printed by the kit's program) -/
theorem dX5_init_0 : decode cX5_init 0 = .ok (.aload_n 0, 1) := by decide +kernel
theorem dX5_init_1 : decode cX5_init 1 = .ok (.invokespecial 1, 3) := by decide +kernel
theorem dX5_init_4 : decode cX5_init 4 = .ok (.aload_n 0, 1) := by decide +kernel
theorem dX5_init_5 : decode cX5_init 5 = .ok (.new 7, 3) := by decide +kernel
theorem dX5_init_8 : decode cX5_init 8 = .ok (.dup, 1) := by decide +kernel
theorem dX5_init_9 : decode cX5_init 9 = .ok (.invokespecial 9, 3) := by decide +kernel
theorem dX5_init_12 : decode cX5_init 12 = .ok (.putfield 10, 3) := by decide +kernel
theorem dX5_init_15 : decode cX5_init 15 = .ok (.aload_n 0, 1) := by decide +kernel
theorem dX5_init_16 : decode cX5_init 16 = .ok (.new 7, 3) := by decide +kernel
theorem dX5_init_19 : decode cX5_init 19 = .ok (.dup, 1) := by decide +kernel
theorem dX5_init_20 : decode cX5_init 20 = .ok (.invokespecial 9, 3) := by decide +kernel
theorem dX5_init_23 : decode cX5_init 23 = .ok (.putfield 16, 3) := by decide +kernel
theorem dX5_init_26 : decode cX5_init 26 = .ok (.aload_n 0, 1) := by decide +kernel
theorem dX5_init_27 : decode cX5_init 27 = .ok (.new 19, 3) := by decide +kernel
theorem dX5_init_30 : decode cX5_init 30 = .ok (.dup, 1) := by decide +kernel
theorem dX5_init_31 : decode cX5_init 31 = .ok (.invokespecial 21, 3) := by decide +kernel
theorem dX5_init_34 : decode cX5_init 34 = .ok (.putfield 22, 3) := by decide +kernel
theorem dX5_init_37 : decode cX5_init 37 = .ok (.aload_n 0, 1) := by decide +kernel
theorem dX5_init_38 : decode cX5_init 38 = .ok (.new 26, 3) := by decide +kernel
theorem dX5_init_41 : decode cX5_init 41 = .ok (.dup, 1) := by decide +kernel
theorem dX5_init_42 : decode cX5_init 42 = .ok (.invokespecial 28, 3) := by decide +kernel
theorem dX5_init_45 : decode cX5_init 45 = .ok (.putfield 29, 3) := by decide +kernel
theorem dX5_init_48 : decode cX5_init 48 = .ok (.return_, 1) := by decide +kernel
theorem dX5_set_0 : decode cX5_set 0 = .ok (.iload_n 1, 1) := by decide +kernel
theorem dX5_set_1 : decode cX5_set 1 = .ok (.iconst 0, 1) := by decide +kernel
theorem dX5_set_2 : decode cX5_set 2 = .ok (.iconst 2, 1) := by decide +kernel
theorem dX5_set_3 : decode cX5_set 3 = .ok (.invokestatic 33, 3) := by decide +kernel
theorem dX5_set_6 : decode cX5_set 6 = .ok (.ifCond .eq 20, 3) := by decide +kernel
theorem dX5_set_9 : decode cX5_set 9 = .ok (.iload_n 2, 1) := by decide +kernel
theorem dX5_set_10 : decode cX5_set 10 = .ok (.getstatic 37, 3) := by decide +kernel
theorem dX5_set_13 : decode cX5_set 13 = .ok (.iload_n 1, 1) := by decide +kernel
theorem dX5_set_14 : decode cX5_set 14 = .ok (.iaload, 1) := by decide +kernel
theorem dX5_set_15 : decode cX5_set 15 = .ok (.getstatic 41, 3) := by decide +kernel
theorem dX5_set_18 : decode cX5_set 18 = .ok (.iload_n 1, 1) := by decide +kernel
theorem dX5_set_19 : decode cX5_set 19 = .ok (.iaload, 1) := by decide +kernel
theorem dX5_set_20 : decode cX5_set 20 = .ok (.invokestatic 33, 3) := by decide +kernel
theorem dX5_set_23 : decode cX5_set 23 = .ok (.ifCond .ne 6, 3) := by decide +kernel
theorem dX5_set_26 : decode cX5_set 26 = .ok (.ldc 44, 2) := by decide +kernel
theorem dX5_set_28 : decode cX5_set 28 = .ok (.ireturn, 1) := by decide +kernel
theorem dX5_set_29 : decode cX5_set 29 = .ok (.aload_n 0, 1) := by decide +kernel
theorem dX5_set_30 : decode cX5_set 30 = .ok (.getfield 22, 3) := by decide +kernel
theorem dX5_set_33 : decode cX5_set 33 = .ok (.aload_n 0, 1) := by decide +kernel
theorem dX5_set_34 : decode cX5_set 34 = .ok (.getfield 10, 3) := by decide +kernel
theorem dX5_set_37 : decode cX5_set 37 = .ok (.invokevirtual 45, 3) := by decide +kernel
theorem dX5_set_40 : decode cX5_set 40 = .ok (.aload_n 0, 1) := by decide +kernel
theorem dX5_set_41 : decode cX5_set 41 = .ok (.getfield 10, 3) := by decide +kernel
theorem dX5_set_44 : decode cX5_set 44 = .ok (.getfield 49, 3) := by decide +kernel
theorem dX5_set_47 : decode cX5_set 47 = .ok (.iload_n 1, 1) := by decide +kernel
theorem dX5_set_48 : decode cX5_set 48 = .ok (.iaload, 1) := by decide +kernel
theorem dX5_set_49 : decode cX5_set 49 = .ok (.istore_n 3, 1) := by decide +kernel
theorem dX5_set_50 : decode cX5_set 50 = .ok (.aload_n 0, 1) := by decide +kernel
theorem dX5_set_51 : decode cX5_set 51 = .ok (.getfield 10, 3) := by decide +kernel
theorem dX5_set_54 : decode cX5_set 54 = .ok (.getfield 49, 3) := by decide +kernel
theorem dX5_set_57 : decode cX5_set 57 = .ok (.iload_n 1, 1) := by decide +kernel
theorem dX5_set_58 : decode cX5_set 58 = .ok (.iload_n 2, 1) := by decide +kernel
theorem dX5_set_59 : decode cX5_set 59 = .ok (.iastore, 1) := by decide +kernel
theorem dX5_set_60 : decode cX5_set 60 = .ok (.iload_n 3, 1) := by decide +kernel
theorem dX5_set_61 : decode cX5_set 61 = .ok (.ireturn, 1) := by decide +kernel
theorem dX5_oracle_0 : decode cX5_oracle 0 = .ok (.iload_n 1, 1) := by decide +kernel
theorem dX5_oracle_1 : decode cX5_oracle 1 = .ok (.iconst 0, 1) := by decide +kernel
theorem dX5_oracle_2 : decode cX5_oracle 2 = .ok (.iconst 4, 1) := by decide +kernel
theorem dX5_oracle_3 : decode cX5_oracle 3 = .ok (.invokestatic 33, 3) := by decide +kernel
theorem dX5_oracle_6 : decode cX5_oracle 6 = .ok (.ifCond .eq 26, 3) := by decide +kernel
theorem dX5_oracle_9 : decode cX5_oracle 9 = .ok (.iload_n 2, 1) := by decide +kernel
theorem dX5_oracle_10 : decode cX5_oracle 10 = .ok (.iconst 0, 1) := by decide +kernel
theorem dX5_oracle_11 : decode cX5_oracle 11 = .ok (.iload_n 1, 1) := by decide +kernel
theorem dX5_oracle_12 : decode cX5_oracle 12 = .ok (.invokestatic 52, 3) := by decide +kernel
theorem dX5_oracle_15 : decode cX5_oracle 15 = .ok (.invokestatic 33, 3) := by decide +kernel
theorem dX5_oracle_18 : decode cX5_oracle 18 = .ok (.ifCond .eq 14, 3) := by decide +kernel
theorem dX5_oracle_21 : decode cX5_oracle 21 = .ok (.iload_n 3, 1) := by decide +kernel
theorem dX5_oracle_22 : decode cX5_oracle 22 = .ok (.iconst 0, 1) := by decide +kernel
theorem dX5_oracle_23 : decode cX5_oracle 23 = .ok (.sipush 9999, 3) := by decide +kernel
theorem dX5_oracle_26 : decode cX5_oracle 26 = .ok (.invokestatic 33, 3) := by decide +kernel
theorem dX5_oracle_29 : decode cX5_oracle 29 = .ok (.ifCond .ne 6, 3) := by decide +kernel
theorem dX5_oracle_32 : decode cX5_oracle 32 = .ok (.ldc 44, 2) := by decide +kernel
theorem dX5_oracle_34 : decode cX5_oracle 34 = .ok (.ireturn, 1) := by decide +kernel
theorem dX5_oracle_35 : decode cX5_oracle 35 = .ok (.aload_n 0, 1) := by decide +kernel
theorem dX5_oracle_36 : decode cX5_oracle 36 = .ok (.getfield 10, 3) := by decide +kernel
theorem dX5_oracle_39 : decode cX5_oracle 39 = .ok (.getfield 56, 3) := by decide +kernel
theorem dX5_oracle_42 : decode cX5_oracle 42 = .ok (.bipush 6, 2) := by decide +kernel
theorem dX5_oracle_44 : decode cX5_oracle 44 = .ok (.if_icmp .lt 6, 3) := by decide +kernel
theorem dX5_oracle_47 : decode cX5_oracle 47 = .ok (.ldc 60, 2) := by decide +kernel
theorem dX5_oracle_49 : decode cX5_oracle 49 = .ok (.ireturn, 1) := by decide +kernel
theorem dX5_oracle_50 : decode cX5_oracle 50 = .ok (.aload_n 0, 1) := by decide +kernel
theorem dX5_oracle_51 : decode cX5_oracle 51 = .ok (.getfield 22, 3) := by decide +kernel
theorem dX5_oracle_54 : decode cX5_oracle 54 = .ok (.aload_n 0, 1) := by decide +kernel
theorem dX5_oracle_55 : decode cX5_oracle 55 = .ok (.getfield 10, 3) := by decide +kernel
theorem dX5_oracle_58 : decode cX5_oracle 58 = .ok (.invokevirtual 45, 3) := by decide +kernel
theorem dX5_oracle_61 : decode cX5_oracle 61 = .ok (.aload_n 0, 1) := by decide +kernel
theorem dX5_oracle_62 : decode cX5_oracle 62 = .ok (.getfield 10, 3) := by decide +kernel
theorem dX5_oracle_65 : decode cX5_oracle 65 = .ok (.getfield 56, 3) := by decide +kernel
theorem dX5_oracle_68 : decode cX5_oracle 68 = .ok (.istore 4, 2) := by decide +kernel
theorem dX5_oracle_70 : decode cX5_oracle 70 = .ok (.aload_n 0, 1) := by decide +kernel
theorem dX5_oracle_71 : decode cX5_oracle 71 = .ok (.getfield 10, 3) := by decide +kernel
theorem dX5_oracle_74 : decode cX5_oracle 74 = .ok (.getfield 61, 3) := by decide +kernel
theorem dX5_oracle_77 : decode cX5_oracle 77 = .ok (.iload 4, 2) := by decide +kernel
theorem dX5_oracle_79 : decode cX5_oracle 79 = .ok (.aaload, 1) := by decide +kernel
theorem dX5_oracle_80 : decode cX5_oracle 80 = .ok (.iload_n 1, 1) := by decide +kernel
theorem dX5_oracle_81 : decode cX5_oracle 81 = .ok (.iload_n 2, 1) := by decide +kernel
theorem dX5_oracle_82 : decode cX5_oracle 82 = .ok (.iload_n 3, 1) := by decide +kernel
theorem dX5_oracle_83 : decode cX5_oracle 83 = .ok (.invokevirtual 65, 3) := by decide +kernel
theorem dX5_oracle_86 : decode cX5_oracle 86 = .ok (.aload_n 0, 1) := by decide +kernel
theorem dX5_oracle_87 : decode cX5_oracle 87 = .ok (.getfield 10, 3) := by decide +kernel
theorem dX5_oracle_90 : decode cX5_oracle 90 = .ok (.iload 4, 2) := by decide +kernel
theorem dX5_oracle_92 : decode cX5_oracle 92 = .ok (.iconst 1, 1) := by decide +kernel
theorem dX5_oracle_93 : decode cX5_oracle 93 = .ok (.iadd, 1) := by decide +kernel
theorem dX5_oracle_94 : decode cX5_oracle 94 = .ok (.putfield 56, 3) := by decide +kernel
theorem dX5_oracle_97 : decode cX5_oracle 97 = .ok (.iload 4, 2) := by decide +kernel
theorem dX5_oracle_99 : decode cX5_oracle 99 = .ok (.ireturn, 1) := by decide +kernel
theorem dX5_seat_0 : decode cX5_seat 0 = .ok (.aload_n 0, 1) := by decide +kernel
theorem dX5_seat_1 : decode cX5_seat 1 = .ok (.iload_n 1, 1) := by decide +kernel
theorem dX5_seat_2 : decode cX5_seat 2 = .ok (.invokevirtual 71, 3) := by decide +kernel
theorem dX5_seat_5 : decode cX5_seat 5 = .ok (.ifCond .eq 12, 3) := by decide +kernel
theorem dX5_seat_8 : decode cX5_seat 8 = .ok (.iload_n 2, 1) := by decide +kernel
theorem dX5_seat_9 : decode cX5_seat 9 = .ok (.iconst 0, 1) := by decide +kernel
theorem dX5_seat_10 : decode cX5_seat 10 = .ok (.iconst 2, 1) := by decide +kernel
theorem dX5_seat_11 : decode cX5_seat 11 = .ok (.invokestatic 33, 3) := by decide +kernel
theorem dX5_seat_14 : decode cX5_seat 14 = .ok (.ifCond .ne 6, 3) := by decide +kernel
theorem dX5_seat_17 : decode cX5_seat 17 = .ok (.ldc 44, 2) := by decide +kernel
theorem dX5_seat_19 : decode cX5_seat 19 = .ok (.ireturn, 1) := by decide +kernel
theorem dX5_seat_20 : decode cX5_seat 20 = .ok (.aload_n 0, 1) := by decide +kernel
theorem dX5_seat_21 : decode cX5_seat 21 = .ok (.getfield 10, 3) := by decide +kernel
theorem dX5_seat_24 : decode cX5_seat 24 = .ok (.getfield 61, 3) := by decide +kernel
theorem dX5_seat_27 : decode cX5_seat 27 = .ok (.iload_n 1, 1) := by decide +kernel
theorem dX5_seat_28 : decode cX5_seat 28 = .ok (.aaload, 1) := by decide +kernel
theorem dX5_seat_29 : decode cX5_seat 29 = .ok (.astore_n 3, 1) := by decide +kernel
theorem dX5_seat_30 : decode cX5_seat 30 = .ok (.aload_n 3, 1) := by decide +kernel
theorem dX5_seat_31 : decode cX5_seat 31 = .ok (.invokevirtual 75, 3) := by decide +kernel
theorem dX5_seat_34 : decode cX5_seat 34 = .ok (.ifCond .ne 11, 3) := by decide +kernel
theorem dX5_seat_37 : decode cX5_seat 37 = .ok (.iload_n 2, 1) := by decide +kernel
theorem dX5_seat_38 : decode cX5_seat 38 = .ok (.aload_n 3, 1) := by decide +kernel
theorem dX5_seat_39 : decode cX5_seat 39 = .ok (.invokestatic 79, 3) := by decide +kernel
theorem dX5_seat_42 : decode cX5_seat 42 = .ok (.ifCond .ne 6, 3) := by decide +kernel
theorem dX5_seat_45 : decode cX5_seat 45 = .ok (.ldc 83, 2) := by decide +kernel
theorem dX5_seat_47 : decode cX5_seat 47 = .ok (.ireturn, 1) := by decide +kernel
theorem dX5_seat_48 : decode cX5_seat 48 = .ok (.aload_n 0, 1) := by decide +kernel
theorem dX5_seat_49 : decode cX5_seat 49 = .ok (.getfield 10, 3) := by decide +kernel
theorem dX5_seat_52 : decode cX5_seat 52 = .ok (.iload_n 2, 1) := by decide +kernel
theorem dX5_seat_53 : decode cX5_seat 53 = .ok (.invokevirtual 84, 3) := by decide +kernel
theorem dX5_seat_56 : decode cX5_seat 56 = .ok (.istore 4, 2) := by decide +kernel
theorem dX5_seat_58 : decode cX5_seat 58 = .ok (.iload 4, 2) := by decide +kernel
theorem dX5_seat_60 : decode cX5_seat 60 = .ok (.iconst (-1), 1) := by decide +kernel
theorem dX5_seat_61 : decode cX5_seat 61 = .ok (.if_icmp .ne 6, 3) := by decide +kernel
theorem dX5_seat_64 : decode cX5_seat 64 = .ok (.ldc 60, 2) := by decide +kernel
theorem dX5_seat_66 : decode cX5_seat 66 = .ok (.ireturn, 1) := by decide +kernel
theorem dX5_seat_67 : decode cX5_seat 67 = .ok (.aload_n 0, 1) := by decide +kernel
theorem dX5_seat_68 : decode cX5_seat 68 = .ok (.getfield 22, 3) := by decide +kernel
theorem dX5_seat_71 : decode cX5_seat 71 = .ok (.aload_n 0, 1) := by decide +kernel
theorem dX5_seat_72 : decode cX5_seat 72 = .ok (.getfield 10, 3) := by decide +kernel
theorem dX5_seat_75 : decode cX5_seat 75 = .ok (.invokevirtual 45, 3) := by decide +kernel
theorem dX5_seat_78 : decode cX5_seat 78 = .ok (.aload_n 3, 1) := by decide +kernel
theorem dX5_seat_79 : decode cX5_seat 79 = .ok (.iload_n 2, 1) := by decide +kernel
theorem dX5_seat_80 : decode cX5_seat 80 = .ok (.putfield 87, 3) := by decide +kernel
theorem dX5_seat_83 : decode cX5_seat 83 = .ok (.aload_n 3, 1) := by decide +kernel
theorem dX5_seat_84 : decode cX5_seat 84 = .ok (.iload 4, 2) := by decide +kernel
theorem dX5_seat_86 : decode cX5_seat 86 = .ok (.putfield 90, 3) := by decide +kernel
theorem dX5_seat_89 : decode cX5_seat 89 = .ok (.aload_n 0, 1) := by decide +kernel
theorem dX5_seat_90 : decode cX5_seat 90 = .ok (.getfield 10, 3) := by decide +kernel
theorem dX5_seat_93 : decode cX5_seat 93 = .ok (.iload_n 2, 1) := by decide +kernel
theorem dX5_seat_94 : decode cX5_seat 94 = .ok (.invokevirtual 93, 3) := by decide +kernel
theorem dX5_seat_97 : decode cX5_seat 97 = .ok (.ireturn, 1) := by decide +kernel
theorem dX5_stand_0 : decode cX5_stand 0 = .ok (.aload_n 0, 1) := by decide +kernel
theorem dX5_stand_1 : decode cX5_stand 1 = .ok (.iload_n 1, 1) := by decide +kernel
theorem dX5_stand_2 : decode cX5_stand 2 = .ok (.invokevirtual 71, 3) := by decide +kernel
theorem dX5_stand_5 : decode cX5_stand 5 = .ok (.ifCond .ne 6, 3) := by decide +kernel
theorem dX5_stand_8 : decode cX5_stand 8 = .ok (.ldc 44, 2) := by decide +kernel
theorem dX5_stand_10 : decode cX5_stand 10 = .ok (.ireturn, 1) := by decide +kernel
theorem dX5_stand_11 : decode cX5_stand 11 = .ok (.aload_n 0, 1) := by decide +kernel
theorem dX5_stand_12 : decode cX5_stand 12 = .ok (.getfield 10, 3) := by decide +kernel
theorem dX5_stand_15 : decode cX5_stand 15 = .ok (.getfield 61, 3) := by decide +kernel
theorem dX5_stand_18 : decode cX5_stand 18 = .ok (.iload_n 1, 1) := by decide +kernel
theorem dX5_stand_19 : decode cX5_stand 19 = .ok (.aaload, 1) := by decide +kernel
theorem dX5_stand_20 : decode cX5_stand 20 = .ok (.astore_n 2, 1) := by decide +kernel
theorem dX5_stand_21 : decode cX5_stand 21 = .ok (.aload_n 2, 1) := by decide +kernel
theorem dX5_stand_22 : decode cX5_stand 22 = .ok (.invokevirtual 75, 3) := by decide +kernel
theorem dX5_stand_25 : decode cX5_stand 25 = .ok (.ifCond .ne 6, 3) := by decide +kernel
theorem dX5_stand_28 : decode cX5_stand 28 = .ok (.ldc 83, 2) := by decide +kernel
theorem dX5_stand_30 : decode cX5_stand 30 = .ok (.ireturn, 1) := by decide +kernel
theorem dX5_stand_31 : decode cX5_stand 31 = .ok (.aload_n 0, 1) := by decide +kernel
theorem dX5_stand_32 : decode cX5_stand 32 = .ok (.getfield 22, 3) := by decide +kernel
theorem dX5_stand_35 : decode cX5_stand 35 = .ok (.aload_n 0, 1) := by decide +kernel
theorem dX5_stand_36 : decode cX5_stand 36 = .ok (.getfield 10, 3) := by decide +kernel
theorem dX5_stand_39 : decode cX5_stand 39 = .ok (.invokevirtual 45, 3) := by decide +kernel
theorem dX5_stand_42 : decode cX5_stand 42 = .ok (.aload_n 2, 1) := by decide +kernel
theorem dX5_stand_43 : decode cX5_stand 43 = .ok (.getfield 87, 3) := by decide +kernel
theorem dX5_stand_46 : decode cX5_stand 46 = .ok (.istore_n 3, 1) := by decide +kernel
theorem dX5_stand_47 : decode cX5_stand 47 = .ok (.aload_n 2, 1) := by decide +kernel
theorem dX5_stand_48 : decode cX5_stand 48 = .ok (.iconst (-1), 1) := by decide +kernel
theorem dX5_stand_49 : decode cX5_stand 49 = .ok (.putfield 87, 3) := by decide +kernel
theorem dX5_stand_52 : decode cX5_stand 52 = .ok (.aload_n 2, 1) := by decide +kernel
theorem dX5_stand_53 : decode cX5_stand 53 = .ok (.iconst (-1), 1) := by decide +kernel
theorem dX5_stand_54 : decode cX5_stand 54 = .ok (.putfield 90, 3) := by decide +kernel
theorem dX5_stand_57 : decode cX5_stand 57 = .ok (.iload_n 3, 1) := by decide +kernel
theorem dX5_stand_58 : decode cX5_stand 58 = .ok (.ireturn, 1) := by decide +kernel
theorem dX5_give_0 : decode cX5_give 0 = .ok (.aload_n 0, 1) := by decide +kernel
theorem dX5_give_1 : decode cX5_give 1 = .ok (.iload_n 1, 1) := by decide +kernel
theorem dX5_give_2 : decode cX5_give 2 = .ok (.invokevirtual 71, 3) := by decide +kernel
theorem dX5_give_5 : decode cX5_give 5 = .ok (.ifCond .eq 14, 3) := by decide +kernel
theorem dX5_give_8 : decode cX5_give 8 = .ok (.iload_n 2, 1) := by decide +kernel
theorem dX5_give_9 : decode cX5_give 9 = .ok (.iconst 1, 1) := by decide +kernel
theorem dX5_give_10 : decode cX5_give 10 = .ok (.sipush 9999, 3) := by decide +kernel
theorem dX5_give_13 : decode cX5_give 13 = .ok (.invokestatic 33, 3) := by decide +kernel
theorem dX5_give_16 : decode cX5_give 16 = .ok (.ifCond .ne 6, 3) := by decide +kernel
theorem dX5_give_19 : decode cX5_give 19 = .ok (.ldc 44, 2) := by decide +kernel
theorem dX5_give_21 : decode cX5_give 21 = .ok (.ireturn, 1) := by decide +kernel
theorem dX5_give_22 : decode cX5_give 22 = .ok (.aload_n 0, 1) := by decide +kernel
theorem dX5_give_23 : decode cX5_give 23 = .ok (.getfield 10, 3) := by decide +kernel
theorem dX5_give_26 : decode cX5_give 26 = .ok (.getfield 61, 3) := by decide +kernel
theorem dX5_give_29 : decode cX5_give 29 = .ok (.iload_n 1, 1) := by decide +kernel
theorem dX5_give_30 : decode cX5_give 30 = .ok (.aaload, 1) := by decide +kernel
theorem dX5_give_31 : decode cX5_give 31 = .ok (.astore_n 3, 1) := by decide +kernel
theorem dX5_give_32 : decode cX5_give 32 = .ok (.aload_n 3, 1) := by decide +kernel
theorem dX5_give_33 : decode cX5_give 33 = .ok (.getfield 96, 3) := by decide +kernel
theorem dX5_give_36 : decode cX5_give 36 = .ok (.iload_n 2, 1) := by decide +kernel
theorem dX5_give_37 : decode cX5_give 37 = .ok (.iadd, 1) := by decide +kernel
theorem dX5_give_38 : decode cX5_give 38 = .ok (.ldc 99, 2) := by decide +kernel
theorem dX5_give_40 : decode cX5_give 40 = .ok (.if_icmp .le 6, 3) := by decide +kernel
theorem dX5_give_43 : decode cX5_give 43 = .ok (.ldc 60, 2) := by decide +kernel
theorem dX5_give_45 : decode cX5_give 45 = .ok (.ireturn, 1) := by decide +kernel
theorem dX5_give_46 : decode cX5_give 46 = .ok (.aload_n 0, 1) := by decide +kernel
theorem dX5_give_47 : decode cX5_give 47 = .ok (.getfield 22, 3) := by decide +kernel
theorem dX5_give_50 : decode cX5_give 50 = .ok (.aload_n 0, 1) := by decide +kernel
theorem dX5_give_51 : decode cX5_give 51 = .ok (.getfield 10, 3) := by decide +kernel
theorem dX5_give_54 : decode cX5_give 54 = .ok (.invokevirtual 45, 3) := by decide +kernel
theorem dX5_give_57 : decode cX5_give 57 = .ok (.aload_n 3, 1) := by decide +kernel
theorem dX5_give_58 : decode cX5_give 58 = .ok (.dup, 1) := by decide +kernel
theorem dX5_give_59 : decode cX5_give 59 = .ok (.getfield 96, 3) := by decide +kernel
theorem dX5_give_62 : decode cX5_give 62 = .ok (.iload_n 2, 1) := by decide +kernel
theorem dX5_give_63 : decode cX5_give 63 = .ok (.iadd, 1) := by decide +kernel
theorem dX5_give_64 : decode cX5_give 64 = .ok (.putfield 96, 3) := by decide +kernel
theorem dX5_give_67 : decode cX5_give 67 = .ok (.aload_n 3, 1) := by decide +kernel
theorem dX5_give_68 : decode cX5_give 68 = .ok (.getfield 96, 3) := by decide +kernel
theorem dX5_give_71 : decode cX5_give 71 = .ok (.ireturn, 1) := by decide +kernel
theorem dX5_lend_0 : decode cX5_lend 0 = .ok (.aload_n 0, 1) := by decide +kernel
theorem dX5_lend_1 : decode cX5_lend 1 = .ok (.iload_n 1, 1) := by decide +kernel
theorem dX5_lend_2 : decode cX5_lend 2 = .ok (.invokevirtual 71, 3) := by decide +kernel
theorem dX5_lend_5 : decode cX5_lend 5 = .ok (.ifCond .eq 27, 3) := by decide +kernel
theorem dX5_lend_8 : decode cX5_lend 8 = .ok (.aload_n 0, 1) := by decide +kernel
theorem dX5_lend_9 : decode cX5_lend 9 = .ok (.iload_n 2, 1) := by decide +kernel
theorem dX5_lend_10 : decode cX5_lend 10 = .ok (.invokevirtual 71, 3) := by decide +kernel
theorem dX5_lend_13 : decode cX5_lend 13 = .ok (.ifCond .eq 19, 3) := by decide +kernel
theorem dX5_lend_16 : decode cX5_lend 16 = .ok (.iload_n 1, 1) := by decide +kernel
theorem dX5_lend_17 : decode cX5_lend 17 = .ok (.iload_n 2, 1) := by decide +kernel
theorem dX5_lend_18 : decode cX5_lend 18 = .ok (.if_icmp .eq 14, 3) := by decide +kernel
theorem dX5_lend_21 : decode cX5_lend 21 = .ok (.iload_n 3, 1) := by decide +kernel
theorem dX5_lend_22 : decode cX5_lend 22 = .ok (.iconst 1, 1) := by decide +kernel
theorem dX5_lend_23 : decode cX5_lend 23 = .ok (.sipush 9999, 3) := by decide +kernel
theorem dX5_lend_26 : decode cX5_lend 26 = .ok (.invokestatic 33, 3) := by decide +kernel
theorem dX5_lend_29 : decode cX5_lend 29 = .ok (.ifCond .ne 6, 3) := by decide +kernel
theorem dX5_lend_32 : decode cX5_lend 32 = .ok (.ldc 44, 2) := by decide +kernel
theorem dX5_lend_34 : decode cX5_lend 34 = .ok (.ireturn, 1) := by decide +kernel
theorem dX5_lend_35 : decode cX5_lend 35 = .ok (.aload_n 0, 1) := by decide +kernel
theorem dX5_lend_36 : decode cX5_lend 36 = .ok (.getfield 10, 3) := by decide +kernel
theorem dX5_lend_39 : decode cX5_lend 39 = .ok (.getfield 61, 3) := by decide +kernel
theorem dX5_lend_42 : decode cX5_lend 42 = .ok (.iload_n 1, 1) := by decide +kernel
theorem dX5_lend_43 : decode cX5_lend 43 = .ok (.aaload, 1) := by decide +kernel
theorem dX5_lend_44 : decode cX5_lend 44 = .ok (.getfield 96, 3) := by decide +kernel
theorem dX5_lend_47 : decode cX5_lend 47 = .ok (.iload_n 3, 1) := by decide +kernel
theorem dX5_lend_48 : decode cX5_lend 48 = .ok (.if_icmp .ge 6, 3) := by decide +kernel
theorem dX5_lend_51 : decode cX5_lend 51 = .ok (.ldc 83, 2) := by decide +kernel
theorem dX5_lend_53 : decode cX5_lend 53 = .ok (.ireturn, 1) := by decide +kernel
theorem dX5_lend_54 : decode cX5_lend 54 = .ok (.aload_n 0, 1) := by decide +kernel
theorem dX5_lend_55 : decode cX5_lend 55 = .ok (.getfield 10, 3) := by decide +kernel
theorem dX5_lend_58 : decode cX5_lend 58 = .ok (.getfield 100, 3) := by decide +kernel
theorem dX5_lend_61 : decode cX5_lend 61 = .ok (.bipush 8, 2) := by decide +kernel
theorem dX5_lend_63 : decode cX5_lend 63 = .ok (.if_icmp .lt 6, 3) := by decide +kernel
theorem dX5_lend_66 : decode cX5_lend 66 = .ok (.ldc 60, 2) := by decide +kernel
theorem dX5_lend_68 : decode cX5_lend 68 = .ok (.ireturn, 1) := by decide +kernel
theorem dX5_lend_69 : decode cX5_lend 69 = .ok (.aload_n 0, 1) := by decide +kernel
theorem dX5_lend_70 : decode cX5_lend 70 = .ok (.getfield 22, 3) := by decide +kernel
theorem dX5_lend_73 : decode cX5_lend 73 = .ok (.aload_n 0, 1) := by decide +kernel
theorem dX5_lend_74 : decode cX5_lend 74 = .ok (.getfield 10, 3) := by decide +kernel
theorem dX5_lend_77 : decode cX5_lend 77 = .ok (.invokevirtual 45, 3) := by decide +kernel
theorem dX5_lend_80 : decode cX5_lend 80 = .ok (.aload_n 0, 1) := by decide +kernel
theorem dX5_lend_81 : decode cX5_lend 81 = .ok (.getfield 10, 3) := by decide +kernel
theorem dX5_lend_84 : decode cX5_lend 84 = .ok (.iload_n 1, 1) := by decide +kernel
theorem dX5_lend_85 : decode cX5_lend 85 = .ok (.iload_n 2, 1) := by decide +kernel
theorem dX5_lend_86 : decode cX5_lend 86 = .ok (.iload_n 3, 1) := by decide +kernel
theorem dX5_lend_87 : decode cX5_lend 87 = .ok (.invokevirtual 103, 3) := by decide +kernel
theorem dX5_lend_90 : decode cX5_lend 90 = .ok (.ireturn, 1) := by decide +kernel
theorem dX5_branch_0 : decode cX5_branch 0 = .ok (.iload_n 1, 1) := by decide +kernel
theorem dX5_branch_1 : decode cX5_branch 1 = .ok (.invokestatic 107, 3) := by decide +kernel
theorem dX5_branch_4 : decode cX5_branch 4 = .ok (.ifCond .eq 12, 3) := by decide +kernel
theorem dX5_branch_7 : decode cX5_branch 7 = .ok (.iload_n 2, 1) := by decide +kernel
theorem dX5_branch_8 : decode cX5_branch 8 = .ok (.iconst 0, 1) := by decide +kernel
theorem dX5_branch_9 : decode cX5_branch 9 = .ok (.iconst 1, 1) := by decide +kernel
theorem dX5_branch_10 : decode cX5_branch 10 = .ok (.invokestatic 33, 3) := by decide +kernel
theorem dX5_branch_13 : decode cX5_branch 13 = .ok (.ifCond .ne 6, 3) := by decide +kernel
theorem dX5_branch_16 : decode cX5_branch 16 = .ok (.ldc 44, 2) := by decide +kernel
theorem dX5_branch_18 : decode cX5_branch 18 = .ok (.ireturn, 1) := by decide +kernel
theorem dX5_branch_19 : decode cX5_branch 19 = .ok (.aload_n 0, 1) := by decide +kernel
theorem dX5_branch_20 : decode cX5_branch 20 = .ok (.getfield 22, 3) := by decide +kernel
theorem dX5_branch_23 : decode cX5_branch 23 = .ok (.aload_n 0, 1) := by decide +kernel
theorem dX5_branch_24 : decode cX5_branch 24 = .ok (.getfield 10, 3) := by decide +kernel
theorem dX5_branch_27 : decode cX5_branch 27 = .ok (.invokevirtual 45, 3) := by decide +kernel
theorem dX5_branch_30 : decode cX5_branch 30 = .ok (.aload_n 0, 1) := by decide +kernel
theorem dX5_branch_31 : decode cX5_branch 31 = .ok (.getfield 10, 3) := by decide +kernel
theorem dX5_branch_34 : decode cX5_branch 34 = .ok (.iload_n 1, 1) := by decide +kernel
theorem dX5_branch_35 : decode cX5_branch 35 = .ok (.iload_n 2, 1) := by decide +kernel
theorem dX5_branch_36 : decode cX5_branch 36 = .ok (.invokevirtual 110, 3) := by decide +kernel
theorem dX5_branch_39 : decode cX5_branch 39 = .ok (.ireturn, 1) := by decide +kernel
theorem dX5_oracleOf_0 : decode cX5_oracleOf 0 = .ok (.aload_n 0, 1) := by decide +kernel
theorem dX5_oracleOf_1 : decode cX5_oracleOf 1 = .ok (.iload_n 1, 1) := by decide +kernel
theorem dX5_oracleOf_2 : decode cX5_oracleOf 2 = .ok (.invokevirtual 71, 3) := by decide +kernel
theorem dX5_oracleOf_5 : decode cX5_oracleOf 5 = .ok (.ifCond .eq 13, 3) := by decide +kernel
theorem dX5_oracleOf_8 : decode cX5_oracleOf 8 = .ok (.iload_n 2, 1) := by decide +kernel
theorem dX5_oracleOf_9 : decode cX5_oracleOf 9 = .ok (.iconst 0, 1) := by decide +kernel
theorem dX5_oracleOf_10 : decode cX5_oracleOf 10 = .ok (.bipush 10, 2) := by decide +kernel
theorem dX5_oracleOf_12 : decode cX5_oracleOf 12 = .ok (.invokestatic 33, 3) := by decide +kernel
theorem dX5_oracleOf_15 : decode cX5_oracleOf 15 = .ok (.ifCond .ne 6, 3) := by decide +kernel
theorem dX5_oracleOf_18 : decode cX5_oracleOf 18 = .ok (.ldc 44, 2) := by decide +kernel
theorem dX5_oracleOf_20 : decode cX5_oracleOf 20 = .ok (.ireturn, 1) := by decide +kernel
theorem dX5_oracleOf_21 : decode cX5_oracleOf 21 = .ok (.aload_n 0, 1) := by decide +kernel
theorem dX5_oracleOf_22 : decode cX5_oracleOf 22 = .ok (.getfield 10, 3) := by decide +kernel
theorem dX5_oracleOf_25 : decode cX5_oracleOf 25 = .ok (.getfield 61, 3) := by decide +kernel
theorem dX5_oracleOf_28 : decode cX5_oracleOf 28 = .ok (.iload_n 1, 1) := by decide +kernel
theorem dX5_oracleOf_29 : decode cX5_oracleOf 29 = .ok (.aaload, 1) := by decide +kernel
theorem dX5_oracleOf_30 : decode cX5_oracleOf 30 = .ok (.astore_n 3, 1) := by decide +kernel
theorem dX5_oracleOf_31 : decode cX5_oracleOf 31 = .ok (.iload_n 2, 1) := by decide +kernel
theorem dX5_oracleOf_32 : decode cX5_oracleOf 32 = .ok (.tableswitch 134 0 9 #[56, 61, 66, 71, 88, 105, 110, 115, 120, 125], 56) := by decide +kernel
theorem dX5_oracleOf_88 : decode cX5_oracleOf 88 = .ok (.aload_n 3, 1) := by decide +kernel
theorem dX5_oracleOf_89 : decode cX5_oracleOf 89 = .ok (.getfield 114, 3) := by decide +kernel
theorem dX5_oracleOf_92 : decode cX5_oracleOf 92 = .ok (.ireturn, 1) := by decide +kernel
theorem dX5_oracleOf_93 : decode cX5_oracleOf 93 = .ok (.aload_n 3, 1) := by decide +kernel
theorem dX5_oracleOf_94 : decode cX5_oracleOf 94 = .ok (.getfield 117, 3) := by decide +kernel
theorem dX5_oracleOf_97 : decode cX5_oracleOf 97 = .ok (.ireturn, 1) := by decide +kernel
theorem dX5_oracleOf_98 : decode cX5_oracleOf 98 = .ok (.aload_n 3, 1) := by decide +kernel
theorem dX5_oracleOf_99 : decode cX5_oracleOf 99 = .ok (.getfield 96, 3) := by decide +kernel
theorem dX5_oracleOf_102 : decode cX5_oracleOf 102 = .ok (.ireturn, 1) := by decide +kernel
theorem dX5_oracleOf_103 : decode cX5_oracleOf 103 = .ok (.aload_n 3, 1) := by decide +kernel
theorem dX5_oracleOf_104 : decode cX5_oracleOf 104 = .ok (.invokevirtual 75, 3) := by decide +kernel
theorem dX5_oracleOf_107 : decode cX5_oracleOf 107 = .ok (.ifCond .eq 10, 3) := by decide +kernel
theorem dX5_oracleOf_110 : decode cX5_oracleOf 110 = .ok (.aload_n 3, 1) := by decide +kernel
theorem dX5_oracleOf_111 : decode cX5_oracleOf 111 = .ok (.getfield 87, 3) := by decide +kernel
theorem dX5_oracleOf_114 : decode cX5_oracleOf 114 = .ok (.goto 5, 3) := by decide +kernel
theorem dX5_oracleOf_117 : decode cX5_oracleOf 117 = .ok (.ldc 120, 2) := by decide +kernel
theorem dX5_oracleOf_119 : decode cX5_oracleOf 119 = .ok (.ireturn, 1) := by decide +kernel
theorem dX5_oracleOf_120 : decode cX5_oracleOf 120 = .ok (.aload_n 3, 1) := by decide +kernel
theorem dX5_oracleOf_121 : decode cX5_oracleOf 121 = .ok (.invokevirtual 75, 3) := by decide +kernel
theorem dX5_oracleOf_124 : decode cX5_oracleOf 124 = .ok (.ifCond .eq 10, 3) := by decide +kernel
theorem dX5_oracleOf_127 : decode cX5_oracleOf 127 = .ok (.aload_n 3, 1) := by decide +kernel
theorem dX5_oracleOf_128 : decode cX5_oracleOf 128 = .ok (.getfield 90, 3) := by decide +kernel
theorem dX5_oracleOf_131 : decode cX5_oracleOf 131 = .ok (.goto 5, 3) := by decide +kernel
theorem dX5_oracleOf_134 : decode cX5_oracleOf 134 = .ok (.ldc 120, 2) := by decide +kernel
theorem dX5_oracleOf_136 : decode cX5_oracleOf 136 = .ok (.ireturn, 1) := by decide +kernel
theorem dX5_oracleOf_137 : decode cX5_oracleOf 137 = .ok (.aload_n 3, 1) := by decide +kernel
theorem dX5_oracleOf_138 : decode cX5_oracleOf 138 = .ok (.getfield 121, 3) := by decide +kernel
theorem dX5_oracleOf_141 : decode cX5_oracleOf 141 = .ok (.ireturn, 1) := by decide +kernel
theorem dX5_oracleOf_142 : decode cX5_oracleOf 142 = .ok (.aload_n 3, 1) := by decide +kernel
theorem dX5_oracleOf_143 : decode cX5_oracleOf 143 = .ok (.getfield 124, 3) := by decide +kernel
theorem dX5_oracleOf_146 : decode cX5_oracleOf 146 = .ok (.ireturn, 1) := by decide +kernel
theorem dX5_oracleOf_147 : decode cX5_oracleOf 147 = .ok (.aload_n 3, 1) := by decide +kernel
theorem dX5_oracleOf_148 : decode cX5_oracleOf 148 = .ok (.getfield 127, 3) := by decide +kernel
theorem dX5_oracleOf_151 : decode cX5_oracleOf 151 = .ok (.ireturn, 1) := by decide +kernel
theorem dX5_oracleOf_152 : decode cX5_oracleOf 152 = .ok (.aload_n 3, 1) := by decide +kernel
theorem dX5_oracleOf_153 : decode cX5_oracleOf 153 = .ok (.getfield 130, 3) := by decide +kernel
theorem dX5_oracleOf_156 : decode cX5_oracleOf 156 = .ok (.ireturn, 1) := by decide +kernel
theorem dX5_oracleOf_157 : decode cX5_oracleOf 157 = .ok (.aload_n 0, 1) := by decide +kernel
theorem dX5_oracleOf_158 : decode cX5_oracleOf 158 = .ok (.getfield 10, 3) := by decide +kernel
theorem dX5_oracleOf_161 : decode cX5_oracleOf 161 = .ok (.iload_n 1, 1) := by decide +kernel
theorem dX5_oracleOf_162 : decode cX5_oracleOf 162 = .ok (.invokevirtual 133, 3) := by decide +kernel
theorem dX5_oracleOf_165 : decode cX5_oracleOf 165 = .ok (.ireturn, 1) := by decide +kernel
theorem dX5_oracleOf_166 : decode cX5_oracleOf 166 = .ok (.aload_n 0, 1) := by decide +kernel
theorem dX5_oracleOf_167 : decode cX5_oracleOf 167 = .ok (.getfield 10, 3) := by decide +kernel
theorem dX5_oracleOf_170 : decode cX5_oracleOf 170 = .ok (.iload_n 1, 1) := by decide +kernel
theorem dX5_oracleOf_171 : decode cX5_oracleOf 171 = .ok (.invokevirtual 136, 3) := by decide +kernel
theorem dX5_oracleOf_174 : decode cX5_oracleOf 174 = .ok (.ireturn, 1) := by decide +kernel
theorem dX5_counter_0 : decode cX5_counter 0 = .ok (.aload_n 0, 1) := by decide +kernel
theorem dX5_counter_1 : decode cX5_counter 1 = .ok (.iload_n 1, 1) := by decide +kernel
theorem dX5_counter_2 : decode cX5_counter 2 = .ok (.invokevirtual 71, 3) := by decide +kernel
theorem dX5_counter_5 : decode cX5_counter 5 = .ok (.ifCond .eq 7, 3) := by decide +kernel
theorem dX5_counter_8 : decode cX5_counter 8 = .ok (.iload_n 2, 1) := by decide +kernel
theorem dX5_counter_9 : decode cX5_counter 9 = .ok (.ifCond .ge 6, 3) := by decide +kernel
theorem dX5_counter_12 : decode cX5_counter 12 = .ok (.ldc 44, 2) := by decide +kernel
theorem dX5_counter_14 : decode cX5_counter 14 = .ok (.ireturn, 1) := by decide +kernel
theorem dX5_counter_15 : decode cX5_counter 15 = .ok (.aload_n 0, 1) := by decide +kernel
theorem dX5_counter_16 : decode cX5_counter 16 = .ok (.getfield 10, 3) := by decide +kernel
theorem dX5_counter_19 : decode cX5_counter 19 = .ok (.getfield 61, 3) := by decide +kernel
theorem dX5_counter_22 : decode cX5_counter 22 = .ok (.iload_n 1, 1) := by decide +kernel
theorem dX5_counter_23 : decode cX5_counter 23 = .ok (.aaload, 1) := by decide +kernel
theorem dX5_counter_24 : decode cX5_counter 24 = .ok (.astore_n 3, 1) := by decide +kernel
theorem dX5_counter_25 : decode cX5_counter 25 = .ok (.iload_n 2, 1) := by decide +kernel
theorem dX5_counter_26 : decode cX5_counter 26 = .ok (.aload_n 3, 1) := by decide +kernel
theorem dX5_counter_27 : decode cX5_counter 27 = .ok (.invokevirtual 139, 3) := by decide +kernel
theorem dX5_counter_30 : decode cX5_counter 30 = .ok (.if_icmp .ge 12, 3) := by decide +kernel
theorem dX5_counter_33 : decode cX5_counter 33 = .ok (.aload_n 3, 1) := by decide +kernel
theorem dX5_counter_34 : decode cX5_counter 34 = .ok (.getfield 143, 3) := by decide +kernel
theorem dX5_counter_37 : decode cX5_counter 37 = .ok (.iload_n 2, 1) := by decide +kernel
theorem dX5_counter_38 : decode cX5_counter 38 = .ok (.iaload, 1) := by decide +kernel
theorem dX5_counter_39 : decode cX5_counter 39 = .ok (.goto 5, 3) := by decide +kernel
theorem dX5_counter_42 : decode cX5_counter 42 = .ok (.ldc 120, 2) := by decide +kernel
theorem dX5_counter_44 : decode cX5_counter 44 = .ok (.ireturn, 1) := by decide +kernel
theorem dX5_loanOf_0 : decode cX5_loanOf 0 = .ok (.iload_n 1, 1) := by decide +kernel
theorem dX5_loanOf_1 : decode cX5_loanOf 1 = .ok (.iconst 0, 1) := by decide +kernel
theorem dX5_loanOf_2 : decode cX5_loanOf 2 = .ok (.aload_n 0, 1) := by decide +kernel
theorem dX5_loanOf_3 : decode cX5_loanOf 3 = .ok (.getfield 10, 3) := by decide +kernel
theorem dX5_loanOf_6 : decode cX5_loanOf 6 = .ok (.getfield 100, 3) := by decide +kernel
theorem dX5_loanOf_9 : decode cX5_loanOf 9 = .ok (.iconst 1, 1) := by decide +kernel
theorem dX5_loanOf_10 : decode cX5_loanOf 10 = .ok (.isub, 1) := by decide +kernel
theorem dX5_loanOf_11 : decode cX5_loanOf 11 = .ok (.invokestatic 33, 3) := by decide +kernel
theorem dX5_loanOf_14 : decode cX5_loanOf 14 = .ok (.ifCond .eq 12, 3) := by decide +kernel
theorem dX5_loanOf_17 : decode cX5_loanOf 17 = .ok (.iload_n 2, 1) := by decide +kernel
theorem dX5_loanOf_18 : decode cX5_loanOf 18 = .ok (.iconst 0, 1) := by decide +kernel
theorem dX5_loanOf_19 : decode cX5_loanOf 19 = .ok (.iconst 2, 1) := by decide +kernel
theorem dX5_loanOf_20 : decode cX5_loanOf 20 = .ok (.invokestatic 33, 3) := by decide +kernel
theorem dX5_loanOf_23 : decode cX5_loanOf 23 = .ok (.ifCond .ne 6, 3) := by decide +kernel
theorem dX5_loanOf_26 : decode cX5_loanOf 26 = .ok (.ldc 44, 2) := by decide +kernel
theorem dX5_loanOf_28 : decode cX5_loanOf 28 = .ok (.ireturn, 1) := by decide +kernel
theorem dX5_loanOf_29 : decode cX5_loanOf 29 = .ok (.aload_n 0, 1) := by decide +kernel
theorem dX5_loanOf_30 : decode cX5_loanOf 30 = .ok (.getfield 10, 3) := by decide +kernel
theorem dX5_loanOf_33 : decode cX5_loanOf 33 = .ok (.getfield 146, 3) := by decide +kernel
theorem dX5_loanOf_36 : decode cX5_loanOf 36 = .ok (.iload_n 1, 1) := by decide +kernel
theorem dX5_loanOf_37 : decode cX5_loanOf 37 = .ok (.aaload, 1) := by decide +kernel
theorem dX5_loanOf_38 : decode cX5_loanOf 38 = .ok (.astore_n 3, 1) := by decide +kernel
theorem dX5_loanOf_39 : decode cX5_loanOf 39 = .ok (.iload_n 2, 1) := by decide +kernel
theorem dX5_loanOf_40 : decode cX5_loanOf 40 = .ok (.lookupswitch 38 #[(0, 28), (1, 33)], 28) := by decide +kernel
theorem dX5_loanOf_68 : decode cX5_loanOf 68 = .ok (.aload_n 3, 1) := by decide +kernel
theorem dX5_loanOf_69 : decode cX5_loanOf 69 = .ok (.getfield 150, 3) := by decide +kernel
theorem dX5_loanOf_72 : decode cX5_loanOf 72 = .ok (.ireturn, 1) := by decide +kernel
theorem dX5_loanOf_73 : decode cX5_loanOf 73 = .ok (.aload_n 3, 1) := by decide +kernel
theorem dX5_loanOf_74 : decode cX5_loanOf 74 = .ok (.getfield 155, 3) := by decide +kernel
theorem dX5_loanOf_77 : decode cX5_loanOf 77 = .ok (.ireturn, 1) := by decide +kernel
theorem dX5_loanOf_78 : decode cX5_loanOf 78 = .ok (.aload_n 3, 1) := by decide +kernel
theorem dX5_loanOf_79 : decode cX5_loanOf 79 = .ok (.getfield 158, 3) := by decide +kernel
theorem dX5_loanOf_82 : decode cX5_loanOf 82 = .ok (.ireturn, 1) := by decide +kernel
theorem dX5_share_0 : decode cX5_share 0 = .ok (.aload_n 0, 1) := by decide +kernel
theorem dX5_share_1 : decode cX5_share 1 = .ok (.iload_n 1, 1) := by decide +kernel
theorem dX5_share_2 : decode cX5_share 2 = .ok (.invokevirtual 71, 3) := by decide +kernel
theorem dX5_share_5 : decode cX5_share 5 = .ok (.ifCond .ne 6, 3) := by decide +kernel
theorem dX5_share_8 : decode cX5_share 8 = .ok (.ldc 44, 2) := by decide +kernel
theorem dX5_share_10 : decode cX5_share 10 = .ok (.ireturn, 1) := by decide +kernel
theorem dX5_share_11 : decode cX5_share 11 = .ok (.aload_n 0, 1) := by decide +kernel
theorem dX5_share_12 : decode cX5_share 12 = .ok (.getfield 10, 3) := by decide +kernel
theorem dX5_share_15 : decode cX5_share 15 = .ok (.getfield 61, 3) := by decide +kernel
theorem dX5_share_18 : decode cX5_share 18 = .ok (.iload_n 1, 1) := by decide +kernel
theorem dX5_share_19 : decode cX5_share 19 = .ok (.aaload, 1) := by decide +kernel
theorem dX5_share_20 : decode cX5_share 20 = .ok (.astore_n 2, 1) := by decide +kernel
theorem dX5_share_21 : decode cX5_share 21 = .ok (.aload_n 2, 1) := by decide +kernel
theorem dX5_share_22 : decode cX5_share 22 = .ok (.getfield 121, 3) := by decide +kernel
theorem dX5_share_25 : decode cX5_share 25 = .ok (.aload_n 2, 1) := by decide +kernel
theorem dX5_share_26 : decode cX5_share 26 = .ok (.getfield 124, 3) := by decide +kernel
theorem dX5_share_29 : decode cX5_share 29 = .ok (.iadd, 1) := by decide +kernel
theorem dX5_share_30 : decode cX5_share 30 = .ok (.istore_n 3, 1) := by decide +kernel
theorem dX5_share_31 : decode cX5_share 31 = .ok (.iload_n 3, 1) := by decide +kernel
theorem dX5_share_32 : decode cX5_share 32 = .ok (.ifCond .le 14, 3) := by decide +kernel
theorem dX5_share_35 : decode cX5_share 35 = .ok (.aload_n 2, 1) := by decide +kernel
theorem dX5_share_36 : decode cX5_share 36 = .ok (.getfield 121, 3) := by decide +kernel
theorem dX5_share_39 : decode cX5_share 39 = .ok (.iload_n 3, 1) := by decide +kernel
theorem dX5_share_40 : decode cX5_share 40 = .ok (.invokestatic 173, 3) := by decide +kernel
theorem dX5_share_43 : decode cX5_share 43 = .ok (.goto 5, 3) := by decide +kernel
theorem dX5_share_46 : decode cX5_share 46 = .ok (.ldc 120, 2) := by decide +kernel
theorem dX5_share_48 : decode cX5_share 48 = .ok (.ireturn, 1) := by decide +kernel
theorem dX5_rich_0 : decode cX5_rich 0 = .ok (.iload_n 1, 1) := by decide +kernel
theorem dX5_rich_1 : decode cX5_rich 1 = .ok (.ifCond .ge 6, 3) := by decide +kernel
theorem dX5_rich_4 : decode cX5_rich 4 = .ok (.ldc 44, 2) := by decide +kernel
theorem dX5_rich_6 : decode cX5_rich 6 = .ok (.ireturn, 1) := by decide +kernel
theorem dX5_rich_7 : decode cX5_rich 7 = .ok (.iconst 0, 1) := by decide +kernel
theorem dX5_rich_8 : decode cX5_rich 8 = .ok (.istore_n 2, 1) := by decide +kernel
theorem dX5_rich_9 : decode cX5_rich 9 = .ok (.iload_n 2, 1) := by decide +kernel
theorem dX5_rich_10 : decode cX5_rich 10 = .ok (.aload_n 0, 1) := by decide +kernel
theorem dX5_rich_11 : decode cX5_rich 11 = .ok (.getfield 10, 3) := by decide +kernel
theorem dX5_rich_14 : decode cX5_rich 14 = .ok (.getfield 56, 3) := by decide +kernel
theorem dX5_rich_17 : decode cX5_rich 17 = .ok (.if_icmp .ge 23, 3) := by decide +kernel
theorem dX5_rich_20 : decode cX5_rich 20 = .ok (.aload_n 0, 1) := by decide +kernel
theorem dX5_rich_21 : decode cX5_rich 21 = .ok (.getfield 10, 3) := by decide +kernel
theorem dX5_rich_24 : decode cX5_rich 24 = .ok (.iload_n 2, 1) := by decide +kernel
theorem dX5_rich_25 : decode cX5_rich 25 = .ok (.invokevirtual 176, 3) := by decide +kernel
theorem dX5_rich_28 : decode cX5_rich 28 = .ok (.iload_n 1, 1) := by decide +kernel
theorem dX5_rich_29 : decode cX5_rich 29 = .ok (.if_icmp .ne 5, 3) := by decide +kernel
theorem dX5_rich_32 : decode cX5_rich 32 = .ok (.iload_n 2, 1) := by decide +kernel
theorem dX5_rich_33 : decode cX5_rich 33 = .ok (.ireturn, 1) := by decide +kernel
theorem dX5_rich_34 : decode cX5_rich 34 = .ok (.iinc 2 1, 3) := by decide +kernel
theorem dX5_rich_37 : decode cX5_rich 37 = .ok (.goto (-28), 3) := by decide +kernel
theorem dX5_rich_40 : decode cX5_rich 40 = .ok (.ldc 120, 2) := by decide +kernel
theorem dX5_rich_42 : decode cX5_rich 42 = .ok (.ireturn, 1) := by decide +kernel
theorem dX5_says_0 : decode cX5_says 0 = .ok (.aload_n 0, 1) := by decide +kernel
theorem dX5_says_1 : decode cX5_says 1 = .ok (.iload_n 1, 1) := by decide +kernel
theorem dX5_says_2 : decode cX5_says 2 = .ok (.invokevirtual 71, 3) := by decide +kernel
theorem dX5_says_5 : decode cX5_says 5 = .ok (.ifCond .eq 10, 3) := by decide +kernel
theorem dX5_says_8 : decode cX5_says 8 = .ok (.iload_n 2, 1) := by decide +kernel
theorem dX5_says_9 : decode cX5_says 9 = .ok (.invokestatic 107, 3) := by decide +kernel
theorem dX5_says_12 : decode cX5_says 12 = .ok (.ifCond .ne 6, 3) := by decide +kernel
theorem dX5_says_15 : decode cX5_says 15 = .ok (.ldc 44, 2) := by decide +kernel
theorem dX5_says_17 : decode cX5_says 17 = .ok (.ireturn, 1) := by decide +kernel
theorem dX5_says_18 : decode cX5_says 18 = .ok (.aload_n 0, 1) := by decide +kernel
theorem dX5_says_19 : decode cX5_says 19 = .ok (.getfield 10, 3) := by decide +kernel
theorem dX5_says_22 : decode cX5_says 22 = .ok (.iload_n 2, 1) := by decide +kernel
theorem dX5_says_23 : decode cX5_says 23 = .ok (.invokevirtual 179, 3) := by decide +kernel
theorem dX5_says_26 : decode cX5_says 26 = .ok (.aload_n 0, 1) := by decide +kernel
theorem dX5_says_27 : decode cX5_says 27 = .ok (.getfield 10, 3) := by decide +kernel
theorem dX5_says_30 : decode cX5_says 30 = .ok (.getfield 61, 3) := by decide +kernel
theorem dX5_says_33 : decode cX5_says 33 = .ok (.iload_n 1, 1) := by decide +kernel
theorem dX5_says_34 : decode cX5_says 34 = .ok (.aaload, 1) := by decide +kernel
theorem dX5_says_35 : decode cX5_says 35 = .ok (.getfield 183, 3) := by decide +kernel
theorem dX5_says_38 : decode cX5_says 38 = .ok (.ireturn, 1) := by decide +kernel
theorem dX5_stake_0 : decode cX5_stake 0 = .ok (.aload_n 0, 1) := by decide +kernel
theorem dX5_stake_1 : decode cX5_stake 1 = .ok (.iload_n 1, 1) := by decide +kernel
theorem dX5_stake_2 : decode cX5_stake 2 = .ok (.invokevirtual 71, 3) := by decide +kernel
theorem dX5_stake_5 : decode cX5_stake 5 = .ok (.ifCond .eq 10, 3) := by decide +kernel
theorem dX5_stake_8 : decode cX5_stake 8 = .ok (.iload_n 2, 1) := by decide +kernel
theorem dX5_stake_9 : decode cX5_stake 9 = .ok (.invokestatic 107, 3) := by decide +kernel
theorem dX5_stake_12 : decode cX5_stake 12 = .ok (.ifCond .ne 6, 3) := by decide +kernel
theorem dX5_stake_15 : decode cX5_stake 15 = .ok (.ldc 44, 2) := by decide +kernel
theorem dX5_stake_17 : decode cX5_stake 17 = .ok (.ireturn, 1) := by decide +kernel
theorem dX5_stake_18 : decode cX5_stake 18 = .ok (.aload_n 0, 1) := by decide +kernel
theorem dX5_stake_19 : decode cX5_stake 19 = .ok (.getfield 10, 3) := by decide +kernel
theorem dX5_stake_22 : decode cX5_stake 22 = .ok (.iload_n 2, 1) := by decide +kernel
theorem dX5_stake_23 : decode cX5_stake 23 = .ok (.invokevirtual 179, 3) := by decide +kernel
theorem dX5_stake_26 : decode cX5_stake 26 = .ok (.aload_n 0, 1) := by decide +kernel
theorem dX5_stake_27 : decode cX5_stake 27 = .ok (.getfield 10, 3) := by decide +kernel
theorem dX5_stake_30 : decode cX5_stake 30 = .ok (.getfield 61, 3) := by decide +kernel
theorem dX5_stake_33 : decode cX5_stake 33 = .ok (.iload_n 1, 1) := by decide +kernel
theorem dX5_stake_34 : decode cX5_stake 34 = .ok (.aaload, 1) := by decide +kernel
theorem dX5_stake_35 : decode cX5_stake 35 = .ok (.getfield 186, 3) := by decide +kernel
theorem dX5_stake_38 : decode cX5_stake 38 = .ok (.ireturn, 1) := by decide +kernel
theorem dX5_odds_0 : decode cX5_odds 0 = .ok (.iload_n 1, 1) := by decide +kernel
theorem dX5_odds_1 : decode cX5_odds 1 = .ok (.invokestatic 107, 3) := by decide +kernel
theorem dX5_odds_4 : decode cX5_odds 4 = .ok (.ifCond .ne 6, 3) := by decide +kernel
theorem dX5_odds_7 : decode cX5_odds 7 = .ok (.ldc 44, 2) := by decide +kernel
theorem dX5_odds_9 : decode cX5_odds 9 = .ok (.ireturn, 1) := by decide +kernel
theorem dX5_odds_10 : decode cX5_odds 10 = .ok (.aload_n 0, 1) := by decide +kernel
theorem dX5_odds_11 : decode cX5_odds 11 = .ok (.getfield 10, 3) := by decide +kernel
theorem dX5_odds_14 : decode cX5_odds 14 = .ok (.iload_n 1, 1) := by decide +kernel
theorem dX5_odds_15 : decode cX5_odds 15 = .ok (.invokevirtual 179, 3) := by decide +kernel
theorem dX5_odds_18 : decode cX5_odds 18 = .ok (.aload_n 0, 1) := by decide +kernel
theorem dX5_odds_19 : decode cX5_odds 19 = .ok (.getfield 10, 3) := by decide +kernel
theorem dX5_odds_22 : decode cX5_odds 22 = .ok (.iconst 1, 1) := by decide +kernel
theorem dX5_odds_23 : decode cX5_odds 23 = .ok (.invokevirtual 189, 3) := by decide +kernel
theorem dX5_odds_26 : decode cX5_odds 26 = .ok (.istore_n 2, 1) := by decide +kernel
theorem dX5_odds_27 : decode cX5_odds 27 = .ok (.iload_n 2, 1) := by decide +kernel
theorem dX5_odds_28 : decode cX5_odds 28 = .ok (.aload_n 0, 1) := by decide +kernel
theorem dX5_odds_29 : decode cX5_odds 29 = .ok (.getfield 10, 3) := by decide +kernel
theorem dX5_odds_32 : decode cX5_odds 32 = .ok (.iconst 0, 1) := by decide +kernel
theorem dX5_odds_33 : decode cX5_odds 33 = .ok (.invokevirtual 189, 3) := by decide +kernel
theorem dX5_odds_36 : decode cX5_odds 36 = .ok (.iadd, 1) := by decide +kernel
theorem dX5_odds_37 : decode cX5_odds 37 = .ok (.istore_n 3, 1) := by decide +kernel
theorem dX5_odds_38 : decode cX5_odds 38 = .ok (.iload_n 3, 1) := by decide +kernel
theorem dX5_odds_39 : decode cX5_odds 39 = .ok (.ifCond .le 11, 3) := by decide +kernel
theorem dX5_odds_42 : decode cX5_odds 42 = .ok (.iload_n 2, 1) := by decide +kernel
theorem dX5_odds_43 : decode cX5_odds 43 = .ok (.iload_n 3, 1) := by decide +kernel
theorem dX5_odds_44 : decode cX5_odds 44 = .ok (.invokestatic 173, 3) := by decide +kernel
theorem dX5_odds_47 : decode cX5_odds 47 = .ok (.goto 5, 3) := by decide +kernel
theorem dX5_odds_50 : decode cX5_odds 50 = .ok (.ldc 120, 2) := by decide +kernel
theorem dX5_odds_52 : decode cX5_odds 52 = .ok (.ireturn, 1) := by decide +kernel
theorem dX5_gain_0 : decode cX5_gain 0 = .ok (.aload_n 0, 1) := by decide +kernel
theorem dX5_gain_1 : decode cX5_gain 1 = .ok (.iload_n 1, 1) := by decide +kernel
theorem dX5_gain_2 : decode cX5_gain 2 = .ok (.invokevirtual 71, 3) := by decide +kernel
theorem dX5_gain_5 : decode cX5_gain 5 = .ok (.ifCond .eq 19, 3) := by decide +kernel
theorem dX5_gain_8 : decode cX5_gain 8 = .ok (.iload_n 2, 1) := by decide +kernel
theorem dX5_gain_9 : decode cX5_gain 9 = .ok (.invokestatic 107, 3) := by decide +kernel
theorem dX5_gain_12 : decode cX5_gain 12 = .ok (.ifCond .eq 12, 3) := by decide +kernel
theorem dX5_gain_15 : decode cX5_gain 15 = .ok (.iload_n 3, 1) := by decide +kernel
theorem dX5_gain_16 : decode cX5_gain 16 = .ok (.iconst 0, 1) := by decide +kernel
theorem dX5_gain_17 : decode cX5_gain 17 = .ok (.iconst 1, 1) := by decide +kernel
theorem dX5_gain_18 : decode cX5_gain 18 = .ok (.invokestatic 33, 3) := by decide +kernel
theorem dX5_gain_21 : decode cX5_gain 21 = .ok (.ifCond .ne 6, 3) := by decide +kernel
theorem dX5_gain_24 : decode cX5_gain 24 = .ok (.ldc 44, 2) := by decide +kernel
theorem dX5_gain_26 : decode cX5_gain 26 = .ok (.ireturn, 1) := by decide +kernel
theorem dX5_gain_27 : decode cX5_gain 27 = .ok (.aload_n 0, 1) := by decide +kernel
theorem dX5_gain_28 : decode cX5_gain 28 = .ok (.getfield 16, 3) := by decide +kernel
theorem dX5_gain_31 : decode cX5_gain 31 = .ok (.aload_n 0, 1) := by decide +kernel
theorem dX5_gain_32 : decode cX5_gain 32 = .ok (.getfield 10, 3) := by decide +kernel
theorem dX5_gain_35 : decode cX5_gain 35 = .ok (.invokevirtual 192, 3) := by decide +kernel
theorem dX5_gain_38 : decode cX5_gain 38 = .ok (.aload_n 0, 1) := by decide +kernel
theorem dX5_gain_39 : decode cX5_gain 39 = .ok (.getfield 16, 3) := by decide +kernel
theorem dX5_gain_42 : decode cX5_gain 42 = .ok (.iload_n 2, 1) := by decide +kernel
theorem dX5_gain_43 : decode cX5_gain 43 = .ok (.iload_n 3, 1) := by decide +kernel
theorem dX5_gain_44 : decode cX5_gain 44 = .ok (.invokevirtual 110, 3) := by decide +kernel
theorem dX5_gain_47 : decode cX5_gain 47 = .ok (.pop, 1) := by decide +kernel
theorem dX5_gain_48 : decode cX5_gain 48 = .ok (.aload_n 0, 1) := by decide +kernel
theorem dX5_gain_49 : decode cX5_gain 49 = .ok (.getfield 16, 3) := by decide +kernel
theorem dX5_gain_52 : decode cX5_gain 52 = .ok (.getfield 61, 3) := by decide +kernel
theorem dX5_gain_55 : decode cX5_gain 55 = .ok (.iload_n 1, 1) := by decide +kernel
theorem dX5_gain_56 : decode cX5_gain 56 = .ok (.aaload, 1) := by decide +kernel
theorem dX5_gain_57 : decode cX5_gain 57 = .ok (.getfield 96, 3) := by decide +kernel
theorem dX5_gain_60 : decode cX5_gain 60 = .ok (.aload_n 0, 1) := by decide +kernel
theorem dX5_gain_61 : decode cX5_gain 61 = .ok (.getfield 10, 3) := by decide +kernel
theorem dX5_gain_64 : decode cX5_gain 64 = .ok (.getfield 61, 3) := by decide +kernel
theorem dX5_gain_67 : decode cX5_gain 67 = .ok (.iload_n 1, 1) := by decide +kernel
theorem dX5_gain_68 : decode cX5_gain 68 = .ok (.aaload, 1) := by decide +kernel
theorem dX5_gain_69 : decode cX5_gain 69 = .ok (.getfield 96, 3) := by decide +kernel
theorem dX5_gain_72 : decode cX5_gain 72 = .ok (.isub, 1) := by decide +kernel
theorem dX5_gain_73 : decode cX5_gain 73 = .ok (.ireturn, 1) := by decide +kernel
theorem dX5_doom_0 : decode cX5_doom 0 = .ok (.aload_n 0, 1) := by decide +kernel
theorem dX5_doom_1 : decode cX5_doom 1 = .ok (.iload_n 1, 1) := by decide +kernel
theorem dX5_doom_2 : decode cX5_doom 2 = .ok (.invokevirtual 71, 3) := by decide +kernel
theorem dX5_doom_5 : decode cX5_doom 5 = .ok (.ifCond .eq 19, 3) := by decide +kernel
theorem dX5_doom_8 : decode cX5_doom 8 = .ok (.iload_n 2, 1) := by decide +kernel
theorem dX5_doom_9 : decode cX5_doom 9 = .ok (.invokestatic 107, 3) := by decide +kernel
theorem dX5_doom_12 : decode cX5_doom 12 = .ok (.ifCond .eq 12, 3) := by decide +kernel
theorem dX5_doom_15 : decode cX5_doom 15 = .ok (.iload_n 3, 1) := by decide +kernel
theorem dX5_doom_16 : decode cX5_doom 16 = .ok (.iconst 0, 1) := by decide +kernel
theorem dX5_doom_17 : decode cX5_doom 17 = .ok (.iconst 1, 1) := by decide +kernel
theorem dX5_doom_18 : decode cX5_doom 18 = .ok (.invokestatic 33, 3) := by decide +kernel
theorem dX5_doom_21 : decode cX5_doom 21 = .ok (.ifCond .ne 6, 3) := by decide +kernel
theorem dX5_doom_24 : decode cX5_doom 24 = .ok (.ldc 44, 2) := by decide +kernel
theorem dX5_doom_26 : decode cX5_doom 26 = .ok (.ireturn, 1) := by decide +kernel
theorem dX5_doom_27 : decode cX5_doom 27 = .ok (.aload_n 0, 1) := by decide +kernel
theorem dX5_doom_28 : decode cX5_doom 28 = .ok (.getfield 16, 3) := by decide +kernel
theorem dX5_doom_31 : decode cX5_doom 31 = .ok (.aload_n 0, 1) := by decide +kernel
theorem dX5_doom_32 : decode cX5_doom 32 = .ok (.getfield 10, 3) := by decide +kernel
theorem dX5_doom_35 : decode cX5_doom 35 = .ok (.invokevirtual 192, 3) := by decide +kernel
theorem dX5_doom_38 : decode cX5_doom 38 = .ok (.aload_n 0, 1) := by decide +kernel
theorem dX5_doom_39 : decode cX5_doom 39 = .ok (.getfield 16, 3) := by decide +kernel
theorem dX5_doom_42 : decode cX5_doom 42 = .ok (.getfield 61, 3) := by decide +kernel
theorem dX5_doom_45 : decode cX5_doom 45 = .ok (.iload_n 1, 1) := by decide +kernel
theorem dX5_doom_46 : decode cX5_doom 46 = .ok (.aaload, 1) := by decide +kernel
theorem dX5_doom_47 : decode cX5_doom 47 = .ok (.astore 4, 2) := by decide +kernel
theorem dX5_doom_49 : decode cX5_doom 49 = .ok (.iconst 0, 1) := by decide +kernel
theorem dX5_doom_50 : decode cX5_doom 50 = .ok (.istore 5, 2) := by decide +kernel
theorem dX5_doom_52 : decode cX5_doom 52 = .ok (.iload 5, 2) := by decide +kernel
theorem dX5_doom_54 : decode cX5_doom 54 = .ok (.bipush 100, 2) := by decide +kernel
theorem dX5_doom_56 : decode cX5_doom 56 = .ok (.if_icmp .ge 30, 3) := by decide +kernel
theorem dX5_doom_59 : decode cX5_doom 59 = .ok (.aload 4, 2) := by decide +kernel
theorem dX5_doom_61 : decode cX5_doom 61 = .ok (.invokevirtual 195, 3) := by decide +kernel
theorem dX5_doom_64 : decode cX5_doom 64 = .ok (.ifCond .eq 6, 3) := by decide +kernel
theorem dX5_doom_67 : decode cX5_doom 67 = .ok (.iload 5, 2) := by decide +kernel
theorem dX5_doom_69 : decode cX5_doom 69 = .ok (.ireturn, 1) := by decide +kernel
theorem dX5_doom_70 : decode cX5_doom 70 = .ok (.aload_n 0, 1) := by decide +kernel
theorem dX5_doom_71 : decode cX5_doom 71 = .ok (.getfield 16, 3) := by decide +kernel
theorem dX5_doom_74 : decode cX5_doom 74 = .ok (.iload_n 2, 1) := by decide +kernel
theorem dX5_doom_75 : decode cX5_doom 75 = .ok (.iload_n 3, 1) := by decide +kernel
theorem dX5_doom_76 : decode cX5_doom 76 = .ok (.invokevirtual 110, 3) := by decide +kernel
theorem dX5_doom_79 : decode cX5_doom 79 = .ok (.pop, 1) := by decide +kernel
theorem dX5_doom_80 : decode cX5_doom 80 = .ok (.iinc 5 1, 3) := by decide +kernel
theorem dX5_doom_83 : decode cX5_doom 83 = .ok (.goto (-31), 3) := by decide +kernel
theorem dX5_doom_86 : decode cX5_doom 86 = .ok (.aload 4, 2) := by decide +kernel
theorem dX5_doom_88 : decode cX5_doom 88 = .ok (.invokevirtual 195, 3) := by decide +kernel
theorem dX5_doom_91 : decode cX5_doom 91 = .ok (.ifCond .eq 8, 3) := by decide +kernel
theorem dX5_doom_94 : decode cX5_doom 94 = .ok (.bipush 100, 2) := by decide +kernel
theorem dX5_doom_96 : decode cX5_doom 96 = .ok (.goto 5, 3) := by decide +kernel
theorem dX5_doom_99 : decode cX5_doom 99 = .ok (.ldc 120, 2) := by decide +kernel
theorem dX5_doom_101 : decode cX5_doom 101 = .ok (.ireturn, 1) := by decide +kernel
theorem dX5_bestRow_0 : decode cX5_bestRow 0 = .ok (.aload_n 0, 1) := by decide +kernel
theorem dX5_bestRow_1 : decode cX5_bestRow 1 = .ok (.iload_n 1, 1) := by decide +kernel
theorem dX5_bestRow_2 : decode cX5_bestRow 2 = .ok (.invokevirtual 71, 3) := by decide +kernel
theorem dX5_bestRow_5 : decode cX5_bestRow 5 = .ok (.ifCond .eq 29, 3) := by decide +kernel
theorem dX5_bestRow_8 : decode cX5_bestRow 8 = .ok (.iload_n 2, 1) := by decide +kernel
theorem dX5_bestRow_9 : decode cX5_bestRow 9 = .ok (.invokestatic 107, 3) := by decide +kernel
theorem dX5_bestRow_12 : decode cX5_bestRow 12 = .ok (.ifCond .eq 22, 3) := by decide +kernel
theorem dX5_bestRow_15 : decode cX5_bestRow 15 = .ok (.iload_n 3, 1) := by decide +kernel
theorem dX5_bestRow_16 : decode cX5_bestRow 16 = .ok (.iconst 1, 1) := by decide +kernel
theorem dX5_bestRow_17 : decode cX5_bestRow 17 = .ok (.iconst 5, 1) := by decide +kernel
theorem dX5_bestRow_18 : decode cX5_bestRow 18 = .ok (.invokestatic 33, 3) := by decide +kernel
theorem dX5_bestRow_21 : decode cX5_bestRow 21 = .ok (.ifCond .eq 13, 3) := by decide +kernel
theorem dX5_bestRow_24 : decode cX5_bestRow 24 = .ok (.iload 4, 2) := by decide +kernel
theorem dX5_bestRow_26 : decode cX5_bestRow 26 = .ok (.iconst 0, 1) := by decide +kernel
theorem dX5_bestRow_27 : decode cX5_bestRow 27 = .ok (.iconst 1, 1) := by decide +kernel
theorem dX5_bestRow_28 : decode cX5_bestRow 28 = .ok (.invokestatic 33, 3) := by decide +kernel
theorem dX5_bestRow_31 : decode cX5_bestRow 31 = .ok (.ifCond .ne 6, 3) := by decide +kernel
theorem dX5_bestRow_34 : decode cX5_bestRow 34 = .ok (.ldc 44, 2) := by decide +kernel
theorem dX5_bestRow_36 : decode cX5_bestRow 36 = .ok (.ireturn, 1) := by decide +kernel
theorem dX5_bestRow_37 : decode cX5_bestRow 37 = .ok (.iconst 0, 1) := by decide +kernel
theorem dX5_bestRow_38 : decode cX5_bestRow 38 = .ok (.istore 5, 2) := by decide +kernel
theorem dX5_bestRow_40 : decode cX5_bestRow 40 = .ok (.iconst (-1), 1) := by decide +kernel
theorem dX5_bestRow_41 : decode cX5_bestRow 41 = .ok (.istore 6, 2) := by decide +kernel
theorem dX5_bestRow_43 : decode cX5_bestRow 43 = .ok (.iconst 0, 1) := by decide +kernel
theorem dX5_bestRow_44 : decode cX5_bestRow 44 = .ok (.istore 7, 2) := by decide +kernel
theorem dX5_bestRow_46 : decode cX5_bestRow 46 = .ok (.iload 7, 2) := by decide +kernel
theorem dX5_bestRow_48 : decode cX5_bestRow 48 = .ok (.iconst 1, 1) := by decide +kernel
theorem dX5_bestRow_49 : decode cX5_bestRow 49 = .ok (.iload_n 3, 1) := by decide +kernel
theorem dX5_bestRow_50 : decode cX5_bestRow 50 = .ok (.ishl, 1) := by decide +kernel
theorem dX5_bestRow_51 : decode cX5_bestRow 51 = .ok (.if_icmp .ge 35, 3) := by decide +kernel
theorem dX5_bestRow_54 : decode cX5_bestRow 54 = .ok (.aload_n 0, 1) := by decide +kernel
theorem dX5_bestRow_55 : decode cX5_bestRow 55 = .ok (.iload 7, 2) := by decide +kernel
theorem dX5_bestRow_57 : decode cX5_bestRow 57 = .ok (.iload_n 1, 1) := by decide +kernel
theorem dX5_bestRow_58 : decode cX5_bestRow 58 = .ok (.iload_n 2, 1) := by decide +kernel
theorem dX5_bestRow_59 : decode cX5_bestRow 59 = .ok (.iload_n 3, 1) := by decide +kernel
theorem dX5_bestRow_60 : decode cX5_bestRow 60 = .ok (.invokevirtual 198, 3) := by decide +kernel
theorem dX5_bestRow_63 : decode cX5_bestRow 63 = .ok (.istore 8, 2) := by decide +kernel
theorem dX5_bestRow_65 : decode cX5_bestRow 65 = .ok (.iload 8, 2) := by decide +kernel
theorem dX5_bestRow_67 : decode cX5_bestRow 67 = .ok (.iload 6, 2) := by decide +kernel
theorem dX5_bestRow_69 : decode cX5_bestRow 69 = .ok (.if_icmp .le 11, 3) := by decide +kernel
theorem dX5_bestRow_72 : decode cX5_bestRow 72 = .ok (.iload 8, 2) := by decide +kernel
theorem dX5_bestRow_74 : decode cX5_bestRow 74 = .ok (.istore 6, 2) := by decide +kernel
theorem dX5_bestRow_76 : decode cX5_bestRow 76 = .ok (.iload 7, 2) := by decide +kernel
theorem dX5_bestRow_78 : decode cX5_bestRow 78 = .ok (.istore 5, 2) := by decide +kernel
theorem dX5_bestRow_80 : decode cX5_bestRow 80 = .ok (.iinc 7 1, 3) := by decide +kernel
theorem dX5_bestRow_83 : decode cX5_bestRow 83 = .ok (.goto (-37), 3) := by decide +kernel
theorem dX5_bestRow_86 : decode cX5_bestRow 86 = .ok (.iload 4, 2) := by decide +kernel
theorem dX5_bestRow_88 : decode cX5_bestRow 88 = .ok (.ifCond .ne 8, 3) := by decide +kernel
theorem dX5_bestRow_91 : decode cX5_bestRow 91 = .ok (.iload 5, 2) := by decide +kernel
theorem dX5_bestRow_93 : decode cX5_bestRow 93 = .ok (.goto 5, 3) := by decide +kernel
theorem dX5_bestRow_96 : decode cX5_bestRow 96 = .ok (.iload 6, 2) := by decide +kernel
theorem dX5_bestRow_98 : decode cX5_bestRow 98 = .ok (.ireturn, 1) := by decide +kernel
theorem dX5_count_0 : decode cX5_count 0 = .ok (.iload_n 1, 1) := by decide +kernel
theorem dX5_count_1 : decode cX5_count 1 = .ok (.bipush 20, 2) := by decide +kernel
theorem dX5_count_3 : decode cX5_count 3 = .ok (.bipush 22, 2) := by decide +kernel
theorem dX5_count_5 : decode cX5_count 5 = .ok (.invokestatic 33, 3) := by decide +kernel
theorem dX5_count_8 : decode cX5_count 8 = .ok (.ifCond .eq 16, 3) := by decide +kernel
theorem dX5_count_11 : decode cX5_count 11 = .ok (.aload_n 0, 1) := by decide +kernel
theorem dX5_count_12 : decode cX5_count 12 = .ok (.getfield 10, 3) := by decide +kernel
theorem dX5_count_15 : decode cX5_count 15 = .ok (.getfield 49, 3) := by decide +kernel
theorem dX5_count_18 : decode cX5_count 18 = .ok (.iload_n 1, 1) := by decide +kernel
theorem dX5_count_19 : decode cX5_count 19 = .ok (.bipush 20, 2) := by decide +kernel
theorem dX5_count_21 : decode cX5_count 21 = .ok (.isub, 1) := by decide +kernel
theorem dX5_count_22 : decode cX5_count 22 = .ok (.iaload, 1) := by decide +kernel
theorem dX5_count_23 : decode cX5_count 23 = .ok (.ireturn, 1) := by decide +kernel
theorem dX5_count_24 : decode cX5_count 24 = .ok (.iload_n 1, 1) := by decide +kernel
theorem dX5_count_25 : decode cX5_count 25 = .ok (.tableswitch 147 0 10 #[59, 67, 75, 83, 91, 99, 107, 115, 123, 131, 139], 59) := by decide +kernel
theorem dX5_count_84 : decode cX5_count 84 = .ok (.aload_n 0, 1) := by decide +kernel
theorem dX5_count_85 : decode cX5_count 85 = .ok (.getfield 10, 3) := by decide +kernel
theorem dX5_count_88 : decode cX5_count 88 = .ok (.getfield 56, 3) := by decide +kernel
theorem dX5_count_91 : decode cX5_count 91 = .ok (.ireturn, 1) := by decide +kernel
theorem dX5_count_92 : decode cX5_count 92 = .ok (.aload_n 0, 1) := by decide +kernel
theorem dX5_count_93 : decode cX5_count 93 = .ok (.getfield 10, 3) := by decide +kernel
theorem dX5_count_96 : decode cX5_count 96 = .ok (.invokevirtual 202, 3) := by decide +kernel
theorem dX5_count_99 : decode cX5_count 99 = .ok (.ireturn, 1) := by decide +kernel
theorem dX5_count_100 : decode cX5_count 100 = .ok (.aload_n 0, 1) := by decide +kernel
theorem dX5_count_101 : decode cX5_count 101 = .ok (.getfield 10, 3) := by decide +kernel
theorem dX5_count_104 : decode cX5_count 104 = .ok (.invokevirtual 205, 3) := by decide +kernel
theorem dX5_count_107 : decode cX5_count 107 = .ok (.ireturn, 1) := by decide +kernel
theorem dX5_count_108 : decode cX5_count 108 = .ok (.aload_n 0, 1) := by decide +kernel
theorem dX5_count_109 : decode cX5_count 109 = .ok (.getfield 10, 3) := by decide +kernel
theorem dX5_count_112 : decode cX5_count 112 = .ok (.getfield 208, 3) := by decide +kernel
theorem dX5_count_115 : decode cX5_count 115 = .ok (.ireturn, 1) := by decide +kernel
theorem dX5_count_116 : decode cX5_count 116 = .ok (.aload_n 0, 1) := by decide +kernel
theorem dX5_count_117 : decode cX5_count 117 = .ok (.getfield 10, 3) := by decide +kernel
theorem dX5_count_120 : decode cX5_count 120 = .ok (.invokevirtual 211, 3) := by decide +kernel
theorem dX5_count_123 : decode cX5_count 123 = .ok (.ireturn, 1) := by decide +kernel
theorem dX5_count_124 : decode cX5_count 124 = .ok (.aload_n 0, 1) := by decide +kernel
theorem dX5_count_125 : decode cX5_count 125 = .ok (.getfield 10, 3) := by decide +kernel
theorem dX5_count_128 : decode cX5_count 128 = .ok (.getfield 164, 3) := by decide +kernel
theorem dX5_count_131 : decode cX5_count 131 = .ok (.ireturn, 1) := by decide +kernel
theorem dX5_count_132 : decode cX5_count 132 = .ok (.aload_n 0, 1) := by decide +kernel
theorem dX5_count_133 : decode cX5_count 133 = .ok (.getfield 10, 3) := by decide +kernel
theorem dX5_count_136 : decode cX5_count 136 = .ok (.getfield 214, 3) := by decide +kernel
theorem dX5_count_139 : decode cX5_count 139 = .ok (.ireturn, 1) := by decide +kernel
theorem dX5_count_140 : decode cX5_count 140 = .ok (.aload_n 0, 1) := by decide +kernel
theorem dX5_count_141 : decode cX5_count 141 = .ok (.getfield 10, 3) := by decide +kernel
theorem dX5_count_144 : decode cX5_count 144 = .ok (.getfield 217, 3) := by decide +kernel
theorem dX5_count_147 : decode cX5_count 147 = .ok (.ireturn, 1) := by decide +kernel
theorem dX5_count_148 : decode cX5_count 148 = .ok (.aload_n 0, 1) := by decide +kernel
theorem dX5_count_149 : decode cX5_count 149 = .ok (.getfield 10, 3) := by decide +kernel
theorem dX5_count_152 : decode cX5_count 152 = .ok (.getfield 100, 3) := by decide +kernel
theorem dX5_count_155 : decode cX5_count 155 = .ok (.ireturn, 1) := by decide +kernel
theorem dX5_count_156 : decode cX5_count 156 = .ok (.aload_n 0, 1) := by decide +kernel
theorem dX5_count_157 : decode cX5_count 157 = .ok (.getfield 22, 3) := by decide +kernel
theorem dX5_count_160 : decode cX5_count 160 = .ok (.getfield 220, 3) := by decide +kernel
theorem dX5_count_163 : decode cX5_count 163 = .ok (.ireturn, 1) := by decide +kernel
theorem dX5_count_164 : decode cX5_count 164 = .ok (.aload_n 0, 1) := by decide +kernel
theorem dX5_count_165 : decode cX5_count 165 = .ok (.getfield 29, 3) := by decide +kernel
theorem dX5_count_168 : decode cX5_count 168 = .ok (.getfield 223, 3) := by decide +kernel
theorem dX5_count_171 : decode cX5_count 171 = .ok (.ireturn, 1) := by decide +kernel
theorem dX5_count_172 : decode cX5_count 172 = .ok (.ldc 44, 2) := by decide +kernel
theorem dX5_count_174 : decode cX5_count 174 = .ok (.ireturn, 1) := by decide +kernel
theorem dX5_isWithin_0 : decode cX5_isWithin 0 = .ok (.iload_n 0, 1) := by decide +kernel
theorem dX5_isWithin_1 : decode cX5_isWithin 1 = .ok (.iload_n 1, 1) := by decide +kernel
theorem dX5_isWithin_2 : decode cX5_isWithin 2 = .ok (.if_icmp .lt 12, 3) := by decide +kernel
theorem dX5_isWithin_5 : decode cX5_isWithin 5 = .ok (.iload_n 0, 1) := by decide +kernel
theorem dX5_isWithin_6 : decode cX5_isWithin 6 = .ok (.iload_n 2, 1) := by decide +kernel
theorem dX5_isWithin_7 : decode cX5_isWithin 7 = .ok (.if_icmp .gt 7, 3) := by decide +kernel
theorem dX5_isWithin_10 : decode cX5_isWithin 10 = .ok (.iconst 1, 1) := by decide +kernel
theorem dX5_isWithin_11 : decode cX5_isWithin 11 = .ok (.goto 4, 3) := by decide +kernel
theorem dX5_isWithin_14 : decode cX5_isWithin 14 = .ok (.iconst 0, 1) := by decide +kernel
theorem dX5_isWithin_15 : decode cX5_isWithin 15 = .ok (.ireturn, 1) := by decide +kernel
theorem dX5_isAddress_0 : decode cX5_isAddress 0 = .ok (.iload_n 0, 1) := by decide +kernel
theorem dX5_isAddress_1 : decode cX5_isAddress 1 = .ok (.iconst 0, 1) := by decide +kernel
theorem dX5_isAddress_2 : decode cX5_isAddress 2 = .ok (.bipush 63, 2) := by decide +kernel
theorem dX5_isAddress_4 : decode cX5_isAddress 4 = .ok (.invokestatic 33, 3) := by decide +kernel
theorem dX5_isAddress_7 : decode cX5_isAddress 7 = .ok (.ireturn, 1) := by decide +kernel
theorem dX5_isOracle_0 : decode cX5_isOracle 0 = .ok (.iload_n 1, 1) := by decide +kernel
theorem dX5_isOracle_1 : decode cX5_isOracle 1 = .ok (.iconst 0, 1) := by decide +kernel
theorem dX5_isOracle_2 : decode cX5_isOracle 2 = .ok (.aload_n 0, 1) := by decide +kernel
theorem dX5_isOracle_3 : decode cX5_isOracle 3 = .ok (.getfield 10, 3) := by decide +kernel
theorem dX5_isOracle_6 : decode cX5_isOracle 6 = .ok (.getfield 56, 3) := by decide +kernel
theorem dX5_isOracle_9 : decode cX5_isOracle 9 = .ok (.iconst 1, 1) := by decide +kernel
theorem dX5_isOracle_10 : decode cX5_isOracle 10 = .ok (.isub, 1) := by decide +kernel
theorem dX5_isOracle_11 : decode cX5_isOracle 11 = .ok (.invokestatic 33, 3) := by decide +kernel
theorem dX5_isOracle_14 : decode cX5_isOracle 14 = .ok (.ireturn, 1) := by decide +kernel
theorem dX5_mostNumberOf_0 : decode cX5_mostNumberOf 0 = .ok (.iload_n 0, 1) := by decide +kernel
theorem dX5_mostNumberOf_1 : decode cX5_mostNumberOf 1 = .ok (.ifCond .ne 5, 3) := by decide +kernel
theorem dX5_mostNumberOf_4 : decode cX5_mostNumberOf 4 = .ok (.iconst 1, 1) := by decide +kernel
theorem dX5_mostNumberOf_5 : decode cX5_mostNumberOf 5 = .ok (.ireturn, 1) := by decide +kernel
theorem dX5_mostNumberOf_6 : decode cX5_mostNumberOf 6 = .ok (.iload_n 0, 1) := by decide +kernel
theorem dX5_mostNumberOf_7 : decode cX5_mostNumberOf 7 = .ok (.iconst 4, 1) := by decide +kernel
theorem dX5_mostNumberOf_8 : decode cX5_mostNumberOf 8 = .ok (.if_icmp .ne 7, 3) := by decide +kernel
theorem dX5_mostNumberOf_11 : decode cX5_mostNumberOf 11 = .ok (.iconst 0, 1) := by decide +kernel
theorem dX5_mostNumberOf_12 : decode cX5_mostNumberOf 12 = .ok (.goto 4, 3) := by decide +kernel
theorem dX5_mostNumberOf_15 : decode cX5_mostNumberOf 15 = .ok (.iconst 5, 1) := by decide +kernel
theorem dX5_mostNumberOf_16 : decode cX5_mostNumberOf 16 = .ok (.ireturn, 1) := by decide +kernel
theorem dX5_takes_0 : decode cX5_takes 0 = .ok (.iload_n 0, 1) := by decide +kernel
theorem dX5_takes_1 : decode cX5_takes 1 = .ok (.ifCond .ne 16, 3) := by decide +kernel
theorem dX5_takes_4 : decode cX5_takes 4 = .ok (.aload_n 1, 1) := by decide +kernel
theorem dX5_takes_5 : decode cX5_takes 5 = .ok (.getfield 114, 3) := by decide +kernel
theorem dX5_takes_8 : decode cX5_takes 8 = .ok (.ifCond .ne 7, 3) := by decide +kernel
theorem dX5_takes_11 : decode cX5_takes 11 = .ok (.iconst 1, 1) := by decide +kernel
theorem dX5_takes_12 : decode cX5_takes 12 = .ok (.goto 4, 3) := by decide +kernel
theorem dX5_takes_15 : decode cX5_takes 15 = .ok (.iconst 0, 1) := by decide +kernel
theorem dX5_takes_16 : decode cX5_takes 16 = .ok (.ireturn, 1) := by decide +kernel
theorem dX5_takes_17 : decode cX5_takes 17 = .ok (.iload_n 0, 1) := by decide +kernel
theorem dX5_takes_18 : decode cX5_takes 18 = .ok (.iconst 1, 1) := by decide +kernel
theorem dX5_takes_19 : decode cX5_takes 19 = .ok (.if_icmp .ne 10, 3) := by decide +kernel
theorem dX5_takes_22 : decode cX5_takes 22 = .ok (.aload_n 1, 1) := by decide +kernel
theorem dX5_takes_23 : decode cX5_takes 23 = .ok (.invokevirtual 161, 3) := by decide +kernel
theorem dX5_takes_26 : decode cX5_takes 26 = .ok (.ifCond .eq 7, 3) := by decide +kernel
theorem dX5_takes_29 : decode cX5_takes 29 = .ok (.iconst 1, 1) := by decide +kernel
theorem dX5_takes_30 : decode cX5_takes 30 = .ok (.goto 4, 3) := by decide +kernel
theorem dX5_takes_33 : decode cX5_takes 33 = .ok (.iconst 0, 1) := by decide +kernel
theorem dX5_takes_34 : decode cX5_takes 34 = .ok (.ireturn, 1) := by decide +kernel
theorem dX5_bitsOfQuotient_0 : decode cX5_bitsOfQuotient 0 = .ok (.iload_n 0, 1) := by decide +kernel
theorem dX5_bitsOfQuotient_1 : decode cX5_bitsOfQuotient 1 = .ok (.ifCond .le 7, 3) := by decide +kernel
theorem dX5_bitsOfQuotient_4 : decode cX5_bitsOfQuotient 4 = .ok (.iload_n 1, 1) := by decide +kernel
theorem dX5_bitsOfQuotient_5 : decode cX5_bitsOfQuotient 5 = .ok (.ifCond .gt 5, 3) := by decide +kernel
theorem dX5_bitsOfQuotient_8 : decode cX5_bitsOfQuotient 8 = .ok (.iconst 0, 1) := by decide +kernel
theorem dX5_bitsOfQuotient_9 : decode cX5_bitsOfQuotient 9 = .ok (.ireturn, 1) := by decide +kernel
theorem dX5_bitsOfQuotient_10 : decode cX5_bitsOfQuotient 10 = .ok (.iload_n 0, 1) := by decide +kernel
theorem dX5_bitsOfQuotient_11 : decode cX5_bitsOfQuotient 11 = .ok (.i2f, 1) := by decide +kernel
theorem dX5_bitsOfQuotient_12 : decode cX5_bitsOfQuotient 12 = .ok (.iload_n 1, 1) := by decide +kernel
theorem dX5_bitsOfQuotient_13 : decode cX5_bitsOfQuotient 13 = .ok (.i2f, 1) := by decide +kernel
theorem dX5_bitsOfQuotient_14 : decode cX5_bitsOfQuotient 14 = .ok (.fdiv, 1) := by decide +kernel
theorem dX5_bitsOfQuotient_15 : decode cX5_bitsOfQuotient 15 = .ok (.fstore_n 2, 1) := by decide +kernel
theorem dX5_bitsOfQuotient_16 : decode cX5_bitsOfQuotient 16 = .ok (.bipush 127, 2) := by decide +kernel
theorem dX5_bitsOfQuotient_18 : decode cX5_bitsOfQuotient 18 = .ok (.istore_n 3, 1) := by decide +kernel
theorem dX5_bitsOfQuotient_19 : decode cX5_bitsOfQuotient 19 = .ok (.iconst 0, 1) := by decide +kernel
theorem dX5_bitsOfQuotient_20 : decode cX5_bitsOfQuotient 20 = .ok (.istore 4, 2) := by decide +kernel
theorem dX5_bitsOfQuotient_22 : decode cX5_bitsOfQuotient 22 = .ok (.iload 4, 2) := by decide +kernel
theorem dX5_bitsOfQuotient_24 : decode cX5_bitsOfQuotient 24 = .ok (.bipush 126, 2) := by decide +kernel
theorem dX5_bitsOfQuotient_26 : decode cX5_bitsOfQuotient 26 = .ok (.if_icmp .ge 22, 3) := by decide +kernel
theorem dX5_bitsOfQuotient_29 : decode cX5_bitsOfQuotient 29 = .ok (.fload_n 2, 1) := by decide +kernel
theorem dX5_bitsOfQuotient_30 : decode cX5_bitsOfQuotient 30 = .ok (.fconst 1, 1) := by decide +kernel
theorem dX5_bitsOfQuotient_31 : decode cX5_bitsOfQuotient 31 = .ok (.fcmp .g, 1) := by decide +kernel
theorem dX5_bitsOfQuotient_32 : decode cX5_bitsOfQuotient 32 = .ok (.ifCond .ge 16, 3) := by decide +kernel
theorem dX5_bitsOfQuotient_35 : decode cX5_bitsOfQuotient 35 = .ok (.fload_n 2, 1) := by decide +kernel
theorem dX5_bitsOfQuotient_36 : decode cX5_bitsOfQuotient 36 = .ok (.fconst 2, 1) := by decide +kernel
theorem dX5_bitsOfQuotient_37 : decode cX5_bitsOfQuotient 37 = .ok (.fmul, 1) := by decide +kernel
theorem dX5_bitsOfQuotient_38 : decode cX5_bitsOfQuotient 38 = .ok (.fstore_n 2, 1) := by decide +kernel
theorem dX5_bitsOfQuotient_39 : decode cX5_bitsOfQuotient 39 = .ok (.iinc 3 (-1), 3) := by decide +kernel
theorem dX5_bitsOfQuotient_42 : decode cX5_bitsOfQuotient 42 = .ok (.iinc 4 1, 3) := by decide +kernel
theorem dX5_bitsOfQuotient_45 : decode cX5_bitsOfQuotient 45 = .ok (.goto (-23), 3) := by decide +kernel
theorem dX5_bitsOfQuotient_48 : decode cX5_bitsOfQuotient 48 = .ok (.iload_n 3, 1) := by decide +kernel
theorem dX5_bitsOfQuotient_49 : decode cX5_bitsOfQuotient 49 = .ok (.bipush 23, 2) := by decide +kernel
theorem dX5_bitsOfQuotient_51 : decode cX5_bitsOfQuotient 51 = .ok (.ishl, 1) := by decide +kernel
theorem dX5_bitsOfQuotient_52 : decode cX5_bitsOfQuotient 52 = .ok (.fload_n 2, 1) := by decide +kernel
theorem dX5_bitsOfQuotient_53 : decode cX5_bitsOfQuotient 53 = .ok (.ldc 254, 2) := by decide +kernel
theorem dX5_bitsOfQuotient_55 : decode cX5_bitsOfQuotient 55 = .ok (.fmul, 1) := by decide +kernel
theorem dX5_bitsOfQuotient_56 : decode cX5_bitsOfQuotient 56 = .ok (.f2i, 1) := by decide +kernel
theorem dX5_bitsOfQuotient_57 : decode cX5_bitsOfQuotient 57 = .ok (.ldc 255, 2) := by decide +kernel
theorem dX5_bitsOfQuotient_59 : decode cX5_bitsOfQuotient 59 = .ok (.isub, 1) := by decide +kernel
theorem dX5_bitsOfQuotient_60 : decode cX5_bitsOfQuotient 60 = .ok (.iadd, 1) := by decide +kernel
theorem dX5_bitsOfQuotient_61 : decode cX5_bitsOfQuotient 61 = .ok (.ireturn, 1) := by decide +kernel
theorem dX5_purseBehind_0 : decode cX5_purseBehind 0 = .ok (.aload_n 0, 1) := by decide +kernel
theorem dX5_purseBehind_1 : decode cX5_purseBehind 1 = .ok (.getfield 16, 3) := by decide +kernel
theorem dX5_purseBehind_4 : decode cX5_purseBehind 4 = .ok (.aload_n 0, 1) := by decide +kernel
theorem dX5_purseBehind_5 : decode cX5_purseBehind 5 = .ok (.getfield 10, 3) := by decide +kernel
theorem dX5_purseBehind_8 : decode cX5_purseBehind 8 = .ok (.invokevirtual 192, 3) := by decide +kernel
theorem dX5_purseBehind_11 : decode cX5_purseBehind 11 = .ok (.iload 4, 2) := by decide +kernel
theorem dX5_purseBehind_13 : decode cX5_purseBehind 13 = .ok (.iconst 1, 1) := by decide +kernel
theorem dX5_purseBehind_14 : decode cX5_purseBehind 14 = .ok (.isub, 1) := by decide +kernel
theorem dX5_purseBehind_15 : decode cX5_purseBehind 15 = .ok (.istore 5, 2) := by decide +kernel
theorem dX5_purseBehind_17 : decode cX5_purseBehind 17 = .ok (.iload 5, 2) := by decide +kernel
theorem dX5_purseBehind_19 : decode cX5_purseBehind 19 = .ok (.ifCond .lt 24, 3) := by decide +kernel
theorem dX5_purseBehind_22 : decode cX5_purseBehind 22 = .ok (.aload_n 0, 1) := by decide +kernel
theorem dX5_purseBehind_23 : decode cX5_purseBehind 23 = .ok (.getfield 16, 3) := by decide +kernel
theorem dX5_purseBehind_26 : decode cX5_purseBehind 26 = .ok (.iload_n 3, 1) := by decide +kernel
theorem dX5_purseBehind_27 : decode cX5_purseBehind 27 = .ok (.iload_n 1, 1) := by decide +kernel
theorem dX5_purseBehind_28 : decode cX5_purseBehind 28 = .ok (.iload 5, 2) := by decide +kernel
theorem dX5_purseBehind_30 : decode cX5_purseBehind 30 = .ok (.ishr, 1) := by decide +kernel
theorem dX5_purseBehind_31 : decode cX5_purseBehind 31 = .ok (.iconst 1, 1) := by decide +kernel
theorem dX5_purseBehind_32 : decode cX5_purseBehind 32 = .ok (.iand, 1) := by decide +kernel
theorem dX5_purseBehind_33 : decode cX5_purseBehind 33 = .ok (.invokevirtual 110, 3) := by decide +kernel
theorem dX5_purseBehind_36 : decode cX5_purseBehind 36 = .ok (.pop, 1) := by decide +kernel
theorem dX5_purseBehind_37 : decode cX5_purseBehind 37 = .ok (.iinc 5 (-1), 3) := by decide +kernel
theorem dX5_purseBehind_40 : decode cX5_purseBehind 40 = .ok (.goto (-23), 3) := by decide +kernel
theorem dX5_purseBehind_43 : decode cX5_purseBehind 43 = .ok (.aload_n 0, 1) := by decide +kernel
theorem dX5_purseBehind_44 : decode cX5_purseBehind 44 = .ok (.getfield 16, 3) := by decide +kernel
theorem dX5_purseBehind_47 : decode cX5_purseBehind 47 = .ok (.getfield 61, 3) := by decide +kernel
theorem dX5_purseBehind_50 : decode cX5_purseBehind 50 = .ok (.iload_n 2, 1) := by decide +kernel
theorem dX5_purseBehind_51 : decode cX5_purseBehind 51 = .ok (.aaload, 1) := by decide +kernel
theorem dX5_purseBehind_52 : decode cX5_purseBehind 52 = .ok (.getfield 96, 3) := by decide +kernel
theorem dX5_purseBehind_55 : decode cX5_purseBehind 55 = .ok (.ireturn, 1) := by decide +kernel
end
section
/-! decode rows (printed by the kit's program) -/
theorem dL_cell_0 : decode cL_cell 0 = .ok (.iload_n 1, 1) := by decide +kernel
theorem dL_cell_1 : decode cL_cell 1 = .ok (.aload_n 0, 1) := by decide +kernel
theorem dL_cell_2 : decode cL_cell 2 = .ok (.arraylength, 1) := by decide +kernel
theorem dL_cell_3 : decode cL_cell 3 = .ok (.if_icmp .ge 9, 3) := by decide +kernel
theorem dL_cell_6 : decode cL_cell 6 = .ok (.aload_n 0, 1) := by decide +kernel
theorem dL_cell_7 : decode cL_cell 7 = .ok (.iload_n 1, 1) := by decide +kernel
theorem dL_cell_8 : decode cL_cell 8 = .ok (.iaload, 1) := by decide +kernel
theorem dL_cell_9 : decode cL_cell 9 = .ok (.goto 12, 3) := by decide +kernel
theorem dL_cell_12 : decode cL_cell 12 = .ok (.ldc 7, 2) := by decide +kernel
theorem dL_cell_14 : decode cL_cell 14 = .ok (.iload_n 1, 1) := by decide +kernel
theorem dL_cell_15 : decode cL_cell 15 = .ok (.iconst 1, 1) := by decide +kernel
theorem dL_cell_16 : decode cL_cell 16 = .ok (.iadd, 1) := by decide +kernel
theorem dL_cell_17 : decode cL_cell 17 = .ok (.imul, 1) := by decide +kernel
theorem dL_cell_18 : decode cL_cell 18 = .ok (.ldc 8, 2) := by decide +kernel
theorem dL_cell_20 : decode cL_cell 20 = .ok (.iadd, 1) := by decide +kernel
theorem dL_cell_21 : decode cL_cell 21 = .ok (.ireturn, 1) := by decide +kernel
theorem dL_low_0 : decode cL_low 0 = .ok (.iload_n 0, 1) := by decide +kernel
theorem dL_low_1 : decode cL_low 1 = .ok (.ldc 9, 2) := by decide +kernel
theorem dL_low_3 : decode cL_low 3 = .ok (.iand, 1) := by decide +kernel
theorem dL_low_4 : decode cL_low 4 = .ok (.iload_n 1, 1) := by decide +kernel
theorem dL_low_5 : decode cL_low 5 = .ok (.irem, 1) := by decide +kernel
theorem dL_low_6 : decode cL_low 6 = .ok (.ireturn, 1) := by decide +kernel
theorem dL_table_0 : decode cL_table 0 = .ok (.aload_n 1, 1) := by decide +kernel
theorem dL_table_1 : decode cL_table 1 = .ok (.bipush 10, 2) := by decide +kernel
theorem dL_table_3 : decode cL_table 3 = .ok (.iload_n 0, 1) := by decide +kernel
theorem dL_table_4 : decode cL_table 4 = .ok (.imul, 1) := by decide +kernel
theorem dL_table_5 : decode cL_table 5 = .ok (.iaload, 1) := by decide +kernel
theorem dL_table_6 : decode cL_table 6 = .ok (.ifCond .le 17, 3) := by decide +kernel
theorem dL_table_9 : decode cL_table 9 = .ok (.aload_n 1, 1) := by decide +kernel
theorem dL_table_10 : decode cL_table 10 = .ok (.bipush 10, 2) := by decide +kernel
theorem dL_table_12 : decode cL_table 12 = .ok (.iload_n 0, 1) := by decide +kernel
theorem dL_table_13 : decode cL_table 13 = .ok (.imul, 1) := by decide +kernel
theorem dL_table_14 : decode cL_table 14 = .ok (.iaload, 1) := by decide +kernel
theorem dL_table_15 : decode cL_table 15 = .ok (.iconst 4, 1) := by decide +kernel
theorem dL_table_16 : decode cL_table 16 = .ok (.if_icmp .ge 7, 3) := by decide +kernel
theorem dL_table_19 : decode cL_table 19 = .ok (.iconst 1, 1) := by decide +kernel
theorem dL_table_20 : decode cL_table 20 = .ok (.goto 4, 3) := by decide +kernel
theorem dL_table_23 : decode cL_table 23 = .ok (.iconst 0, 1) := by decide +kernel
theorem dL_table_24 : decode cL_table 24 = .ok (.ireturn, 1) := by decide +kernel
theorem dL_index_0 : decode cL_index 0 = .ok (.iconst 1, 1) := by decide +kernel
theorem dL_index_1 : decode cL_index 1 = .ok (.aload_n 3, 1) := by decide +kernel
theorem dL_index_2 : decode cL_index 2 = .ok (.bipush 10, 2) := by decide +kernel
theorem dL_index_4 : decode cL_index 4 = .ok (.iload_n 0, 1) := by decide +kernel
theorem dL_index_5 : decode cL_index 5 = .ok (.imul, 1) := by decide +kernel
theorem dL_index_6 : decode cL_index 6 = .ok (.iconst 1, 1) := by decide +kernel
theorem dL_index_7 : decode cL_index 7 = .ok (.iadd, 1) := by decide +kernel
theorem dL_index_8 : decode cL_index 8 = .ok (.iaload, 1) := by decide +kernel
theorem dL_index_9 : decode cL_index 9 = .ok (.ishl, 1) := by decide +kernel
theorem dL_index_10 : decode cL_index 10 = .ok (.istore 4, 2) := by decide +kernel
theorem dL_index_12 : decode cL_index 12 = .ok (.aload_n 3, 1) := by decide +kernel
theorem dL_index_13 : decode cL_index 13 = .ok (.bipush 10, 2) := by decide +kernel
theorem dL_index_15 : decode cL_index 15 = .ok (.iload_n 0, 1) := by decide +kernel
theorem dL_index_16 : decode cL_index 16 = .ok (.imul, 1) := by decide +kernel
theorem dL_index_17 : decode cL_index 17 = .ok (.iaload, 1) := by decide +kernel
theorem dL_index_18 : decode cL_index 18 = .ok (.iconst 1, 1) := by decide +kernel
theorem dL_index_19 : decode cL_index 19 = .ok (.if_icmp .ne 7, 3) := by decide +kernel
theorem dL_index_22 : decode cL_index 22 = .ok (.iload_n 1, 1) := by decide +kernel
theorem dL_index_23 : decode cL_index 23 = .ok (.goto 24, 3) := by decide +kernel
theorem dL_index_26 : decode cL_index 26 = .ok (.aload_n 3, 1) := by decide +kernel
theorem dL_index_27 : decode cL_index 27 = .ok (.bipush 10, 2) := by decide +kernel
theorem dL_index_29 : decode cL_index 29 = .ok (.iload_n 0, 1) := by decide +kernel
theorem dL_index_30 : decode cL_index 30 = .ok (.imul, 1) := by decide +kernel
theorem dL_index_31 : decode cL_index 31 = .ok (.iaload, 1) := by decide +kernel
theorem dL_index_32 : decode cL_index 32 = .ok (.iconst 2, 1) := by decide +kernel
theorem dL_index_33 : decode cL_index 33 = .ok (.if_icmp .ne 9, 3) := by decide +kernel
theorem dL_index_36 : decode cL_index 36 = .ok (.aload_n 2, 1) := by decide +kernel
theorem dL_index_37 : decode cL_index 37 = .ok (.iconst 3, 1) := by decide +kernel
theorem dL_index_38 : decode cL_index 38 = .ok (.iaload, 1) := by decide +kernel
theorem dL_index_39 : decode cL_index 39 = .ok (.goto 8, 3) := by decide +kernel
theorem dL_index_42 : decode cL_index 42 = .ok (.iload_n 1, 1) := by decide +kernel
theorem dL_index_43 : decode cL_index 43 = .ok (.aload_n 2, 1) := by decide +kernel
theorem dL_index_44 : decode cL_index 44 = .ok (.iconst 3, 1) := by decide +kernel
theorem dL_index_45 : decode cL_index 45 = .ok (.iaload, 1) := by decide +kernel
theorem dL_index_46 : decode cL_index 46 = .ok (.ixor, 1) := by decide +kernel
theorem dL_index_47 : decode cL_index 47 = .ok (.istore 5, 2) := by decide +kernel
theorem dL_index_49 : decode cL_index 49 = .ok (.iload 5, 2) := by decide +kernel
theorem dL_index_51 : decode cL_index 51 = .ok (.iload 4, 2) := by decide +kernel
theorem dL_index_53 : decode cL_index 53 = .ok (.iconst 1, 1) := by decide +kernel
theorem dL_index_54 : decode cL_index 54 = .ok (.isub, 1) := by decide +kernel
theorem dL_index_55 : decode cL_index 55 = .ok (.iand, 1) := by decide +kernel
theorem dL_index_56 : decode cL_index 56 = .ok (.ireturn, 1) := by decide +kernel
theorem dL_in_0 : decode cL_in 0 = .ok (.aload_n 1, 1) := by decide +kernel
theorem dL_in_1 : decode cL_in 1 = .ok (.bipush 10, 2) := by decide +kernel
theorem dL_in_3 : decode cL_in 3 = .ok (.iload_n 0, 1) := by decide +kernel
theorem dL_in_4 : decode cL_in 4 = .ok (.imul, 1) := by decide +kernel
theorem dL_in_5 : decode cL_in 5 = .ok (.iconst 3, 1) := by decide +kernel
theorem dL_in_6 : decode cL_in 6 = .ok (.iadd, 1) := by decide +kernel
theorem dL_in_7 : decode cL_in 7 = .ok (.iaload, 1) := by decide +kernel
theorem dL_in_8 : decode cL_in 8 = .ok (.ifCond .lt 18, 3) := by decide +kernel
theorem dL_in_11 : decode cL_in 11 = .ok (.aload_n 1, 1) := by decide +kernel
theorem dL_in_12 : decode cL_in 12 = .ok (.bipush 10, 2) := by decide +kernel
theorem dL_in_14 : decode cL_in 14 = .ok (.iload_n 0, 1) := by decide +kernel
theorem dL_in_15 : decode cL_in 15 = .ok (.imul, 1) := by decide +kernel
theorem dL_in_16 : decode cL_in 16 = .ok (.iconst 2, 1) := by decide +kernel
theorem dL_in_17 : decode cL_in 17 = .ok (.iadd, 1) := by decide +kernel
theorem dL_in_18 : decode cL_in 18 = .ok (.iaload, 1) := by decide +kernel
theorem dL_in_19 : decode cL_in 19 = .ok (.ifCond .le 7, 3) := by decide +kernel
theorem dL_in_22 : decode cL_in 22 = .ok (.iconst 1, 1) := by decide +kernel
theorem dL_in_23 : decode cL_in 23 = .ok (.goto 4, 3) := by decide +kernel
theorem dL_in_26 : decode cL_in 26 = .ok (.iconst 0, 1) := by decide +kernel
theorem dL_in_27 : decode cL_in 27 = .ok (.ireturn, 1) := by decide +kernel
theorem dL_says_0 : decode cL_says 0 = .ok (.aload_n 3, 1) := by decide +kernel
theorem dL_says_1 : decode cL_says 1 = .ok (.bipush 10, 2) := by decide +kernel
theorem dL_says_3 : decode cL_says 3 = .ok (.iload_n 0, 1) := by decide +kernel
theorem dL_says_4 : decode cL_says 4 = .ok (.imul, 1) := by decide +kernel
theorem dL_says_5 : decode cL_says 5 = .ok (.iaload, 1) := by decide +kernel
theorem dL_says_6 : decode cL_says 6 = .ok (.ifCond .ne 12, 3) := by decide +kernel
theorem dL_says_9 : decode cL_says 9 = .ok (.aload_n 3, 1) := by decide +kernel
theorem dL_says_10 : decode cL_says 10 = .ok (.bipush 10, 2) := by decide +kernel
theorem dL_says_12 : decode cL_says 12 = .ok (.iload_n 0, 1) := by decide +kernel
theorem dL_says_13 : decode cL_says 13 = .ok (.imul, 1) := by decide +kernel
theorem dL_says_14 : decode cL_says 14 = .ok (.iconst 1, 1) := by decide +kernel
theorem dL_says_15 : decode cL_says 15 = .ok (.iadd, 1) := by decide +kernel
theorem dL_says_16 : decode cL_says 16 = .ok (.iaload, 1) := by decide +kernel
theorem dL_says_17 : decode cL_says 17 = .ok (.ireturn, 1) := by decide +kernel
theorem dL_says_18 : decode cL_says 18 = .ok (.aload_n 3, 1) := by decide +kernel
theorem dL_says_19 : decode cL_says 19 = .ok (.bipush 10, 2) := by decide +kernel
theorem dL_says_21 : decode cL_says 21 = .ok (.iload_n 0, 1) := by decide +kernel
theorem dL_says_22 : decode cL_says 22 = .ok (.imul, 1) := by decide +kernel
theorem dL_says_23 : decode cL_says 23 = .ok (.iaload, 1) := by decide +kernel
theorem dL_says_24 : decode cL_says 24 = .ok (.iconst 4, 1) := by decide +kernel
theorem dL_says_25 : decode cL_says 25 = .ok (.if_icmp .ge 21, 3) := by decide +kernel
theorem dL_says_28 : decode cL_says 28 = .ok (.aload 4, 2) := by decide +kernel
theorem dL_says_30 : decode cL_says 30 = .ok (.bipush 8, 2) := by decide +kernel
theorem dL_says_32 : decode cL_says 32 = .ok (.iload_n 0, 1) := by decide +kernel
theorem dL_says_33 : decode cL_says 33 = .ok (.imul, 1) := by decide +kernel
theorem dL_says_34 : decode cL_says 34 = .ok (.iload_n 0, 1) := by decide +kernel
theorem dL_says_35 : decode cL_says 35 = .ok (.iload_n 1, 1) := by decide +kernel
theorem dL_says_36 : decode cL_says 36 = .ok (.aload_n 2, 1) := by decide +kernel
theorem dL_says_37 : decode cL_says 37 = .ok (.aload_n 3, 1) := by decide +kernel
theorem dL_says_38 : decode cL_says 38 = .ok (.invokestatic 10, 3) := by decide +kernel
theorem dL_says_41 : decode cL_says 41 = .ok (.iadd, 1) := by decide +kernel
theorem dL_says_42 : decode cL_says 42 = .ok (.iaload, 1) := by decide +kernel
theorem dL_says_43 : decode cL_says 43 = .ok (.iconst 2, 1) := by decide +kernel
theorem dL_says_44 : decode cL_says 44 = .ok (.idiv, 1) := by decide +kernel
theorem dL_says_45 : decode cL_says 45 = .ok (.ireturn, 1) := by decide +kernel
theorem dL_says_46 : decode cL_says 46 = .ok (.iconst 0, 1) := by decide +kernel
theorem dL_says_47 : decode cL_says 47 = .ok (.istore 5, 2) := by decide +kernel
theorem dL_says_49 : decode cL_says 49 = .ok (.iconst 0, 1) := by decide +kernel
theorem dL_says_50 : decode cL_says 50 = .ok (.istore 6, 2) := by decide +kernel
theorem dL_says_52 : decode cL_says 52 = .ok (.iconst 0, 1) := by decide +kernel
theorem dL_says_53 : decode cL_says 53 = .ok (.istore 7, 2) := by decide +kernel
theorem dL_says_55 : decode cL_says 55 = .ok (.iload 7, 2) := by decide +kernel
theorem dL_says_57 : decode cL_says 57 = .ok (.iconst 5, 1) := by decide +kernel
theorem dL_says_58 : decode cL_says 58 = .ok (.if_icmp .ge 77, 3) := by decide +kernel
theorem dL_says_61 : decode cL_says 61 = .ok (.aload_n 3, 1) := by decide +kernel
theorem dL_says_62 : decode cL_says 62 = .ok (.bipush 10, 2) := by decide +kernel
theorem dL_says_64 : decode cL_says 64 = .ok (.iload 7, 2) := by decide +kernel
theorem dL_says_66 : decode cL_says 66 = .ok (.imul, 1) := by decide +kernel
theorem dL_says_67 : decode cL_says 67 = .ok (.iaload, 1) := by decide +kernel
theorem dL_says_68 : decode cL_says 68 = .ok (.iconst 4, 1) := by decide +kernel
theorem dL_says_69 : decode cL_says 69 = .ok (.if_icmp .eq 60, 3) := by decide +kernel
theorem dL_says_72 : decode cL_says 72 = .ok (.iload 7, 2) := by decide +kernel
theorem dL_says_74 : decode cL_says 74 = .ok (.aload_n 3, 1) := by decide +kernel
theorem dL_says_75 : decode cL_says 75 = .ok (.invokestatic 16, 3) := by decide +kernel
theorem dL_says_78 : decode cL_says 78 = .ok (.ifCond .ne 6, 3) := by decide +kernel
theorem dL_says_81 : decode cL_says 81 = .ok (.goto 48, 3) := by decide +kernel
theorem dL_says_84 : decode cL_says 84 = .ok (.iload 7, 2) := by decide +kernel
theorem dL_says_86 : decode cL_says 86 = .ok (.iload_n 1, 1) := by decide +kernel
theorem dL_says_87 : decode cL_says 87 = .ok (.aload_n 2, 1) := by decide +kernel
theorem dL_says_88 : decode cL_says 88 = .ok (.aload_n 3, 1) := by decide +kernel
theorem dL_says_89 : decode cL_says 89 = .ok (.aload 4, 2) := by decide +kernel
theorem dL_says_91 : decode cL_says 91 = .ok (.invokestatic 20, 3) := by decide +kernel
theorem dL_says_94 : decode cL_says 94 = .ok (.iconst 1, 1) := by decide +kernel
theorem dL_says_95 : decode cL_says 95 = .ok (.if_icmp .ne 20, 3) := by decide +kernel
theorem dL_says_98 : decode cL_says 98 = .ok (.iload 5, 2) := by decide +kernel
theorem dL_says_100 : decode cL_says 100 = .ok (.aload_n 3, 1) := by decide +kernel
theorem dL_says_101 : decode cL_says 101 = .ok (.bipush 10, 2) := by decide +kernel
theorem dL_says_103 : decode cL_says 103 = .ok (.iload 7, 2) := by decide +kernel
theorem dL_says_105 : decode cL_says 105 = .ok (.imul, 1) := by decide +kernel
theorem dL_says_106 : decode cL_says 106 = .ok (.iconst 2, 1) := by decide +kernel
theorem dL_says_107 : decode cL_says 107 = .ok (.iadd, 1) := by decide +kernel
theorem dL_says_108 : decode cL_says 108 = .ok (.iaload, 1) := by decide +kernel
theorem dL_says_109 : decode cL_says 109 = .ok (.iadd, 1) := by decide +kernel
theorem dL_says_110 : decode cL_says 110 = .ok (.istore 5, 2) := by decide +kernel
theorem dL_says_112 : decode cL_says 112 = .ok (.goto 17, 3) := by decide +kernel
theorem dL_says_115 : decode cL_says 115 = .ok (.iload 6, 2) := by decide +kernel
theorem dL_says_117 : decode cL_says 117 = .ok (.aload_n 3, 1) := by decide +kernel
theorem dL_says_118 : decode cL_says 118 = .ok (.bipush 10, 2) := by decide +kernel
theorem dL_says_120 : decode cL_says 120 = .ok (.iload 7, 2) := by decide +kernel
theorem dL_says_122 : decode cL_says 122 = .ok (.imul, 1) := by decide +kernel
theorem dL_says_123 : decode cL_says 123 = .ok (.iconst 2, 1) := by decide +kernel
theorem dL_says_124 : decode cL_says 124 = .ok (.iadd, 1) := by decide +kernel
theorem dL_says_125 : decode cL_says 125 = .ok (.iaload, 1) := by decide +kernel
theorem dL_says_126 : decode cL_says 126 = .ok (.iadd, 1) := by decide +kernel
theorem dL_says_127 : decode cL_says 127 = .ok (.istore 6, 2) := by decide +kernel
theorem dL_says_129 : decode cL_says 129 = .ok (.iinc 7 1, 3) := by decide +kernel
theorem dL_says_132 : decode cL_says 132 = .ok (.goto (-77), 3) := by decide +kernel
theorem dL_says_135 : decode cL_says 135 = .ok (.iload 6, 2) := by decide +kernel
theorem dL_says_137 : decode cL_says 137 = .ok (.iload 5, 2) := by decide +kernel
theorem dL_says_139 : decode cL_says 139 = .ok (.if_icmp .le 7, 3) := by decide +kernel
theorem dL_says_142 : decode cL_says 142 = .ok (.iconst 1, 1) := by decide +kernel
theorem dL_says_143 : decode cL_says 143 = .ok (.goto 4, 3) := by decide +kernel
theorem dL_says_146 : decode cL_says 146 = .ok (.iconst 0, 1) := by decide +kernel
theorem dL_says_147 : decode cL_says 147 = .ok (.ireturn, 1) := by decide +kernel
theorem dL_says4_0 : decode cL_says4 0 = .ok (.aload_n 3, 1) := by decide +kernel
theorem dL_says4_1 : decode cL_says4 1 = .ok (.bipush 10, 2) := by decide +kernel
theorem dL_says4_3 : decode cL_says4 3 = .ok (.iload_n 0, 1) := by decide +kernel
theorem dL_says4_4 : decode cL_says4 4 = .ok (.imul, 1) := by decide +kernel
theorem dL_says4_5 : decode cL_says4 5 = .ok (.iaload, 1) := by decide +kernel
theorem dL_says4_6 : decode cL_says4 6 = .ok (.ifCond .ne 14, 3) := by decide +kernel
theorem dL_says4_9 : decode cL_says4 9 = .ok (.aload_n 3, 1) := by decide +kernel
theorem dL_says4_10 : decode cL_says4 10 = .ok (.bipush 10, 2) := by decide +kernel
theorem dL_says4_12 : decode cL_says4 12 = .ok (.iload_n 0, 1) := by decide +kernel
theorem dL_says4_13 : decode cL_says4 13 = .ok (.imul, 1) := by decide +kernel
theorem dL_says4_14 : decode cL_says4 14 = .ok (.iconst 1, 1) := by decide +kernel
theorem dL_says4_15 : decode cL_says4 15 = .ok (.iadd, 1) := by decide +kernel
theorem dL_says4_16 : decode cL_says4 16 = .ok (.iaload, 1) := by decide +kernel
theorem dL_says4_17 : decode cL_says4 17 = .ok (.goto 20, 3) := by decide +kernel
theorem dL_says4_20 : decode cL_says4 20 = .ok (.aload 4, 2) := by decide +kernel
theorem dL_says4_22 : decode cL_says4 22 = .ok (.bipush 8, 2) := by decide +kernel
theorem dL_says4_24 : decode cL_says4 24 = .ok (.iload_n 0, 1) := by decide +kernel
theorem dL_says4_25 : decode cL_says4 25 = .ok (.imul, 1) := by decide +kernel
theorem dL_says4_26 : decode cL_says4 26 = .ok (.iload_n 0, 1) := by decide +kernel
theorem dL_says4_27 : decode cL_says4 27 = .ok (.iload_n 1, 1) := by decide +kernel
theorem dL_says4_28 : decode cL_says4 28 = .ok (.aload_n 2, 1) := by decide +kernel
theorem dL_says4_29 : decode cL_says4 29 = .ok (.aload_n 3, 1) := by decide +kernel
theorem dL_says4_30 : decode cL_says4 30 = .ok (.invokestatic 10, 3) := by decide +kernel
theorem dL_says4_33 : decode cL_says4 33 = .ok (.iadd, 1) := by decide +kernel
theorem dL_says4_34 : decode cL_says4 34 = .ok (.iaload, 1) := by decide +kernel
theorem dL_says4_35 : decode cL_says4 35 = .ok (.iconst 2, 1) := by decide +kernel
theorem dL_says4_36 : decode cL_says4 36 = .ok (.idiv, 1) := by decide +kernel
theorem dL_says4_37 : decode cL_says4 37 = .ok (.ireturn, 1) := by decide +kernel
theorem dL_stake_0 : decode cL_stake 0 = .ok (.iload_n 0, 1) := by decide +kernel
theorem dL_stake_1 : decode cL_stake 1 = .ok (.aload_n 3, 1) := by decide +kernel
theorem dL_stake_2 : decode cL_stake 2 = .ok (.invokestatic 16, 3) := by decide +kernel
theorem dL_stake_5 : decode cL_stake 5 = .ok (.ifCond .ne 5, 3) := by decide +kernel
theorem dL_stake_8 : decode cL_stake 8 = .ok (.iconst 0, 1) := by decide +kernel
theorem dL_stake_9 : decode cL_stake 9 = .ok (.ireturn, 1) := by decide +kernel
theorem dL_stake_10 : decode cL_stake 10 = .ok (.aload_n 2, 1) := by decide +kernel
theorem dL_stake_11 : decode cL_stake 11 = .ok (.iconst 0, 1) := by decide +kernel
theorem dL_stake_12 : decode cL_stake 12 = .ok (.iaload, 1) := by decide +kernel
theorem dL_stake_13 : decode cL_stake 13 = .ok (.istore 5, 2) := by decide +kernel
theorem dL_stake_15 : decode cL_stake 15 = .ok (.iload_n 0, 1) := by decide +kernel
theorem dL_stake_16 : decode cL_stake 16 = .ok (.aload_n 3, 1) := by decide +kernel
theorem dL_stake_17 : decode cL_stake 17 = .ok (.invokestatic 24, 3) := by decide +kernel
theorem dL_stake_20 : decode cL_stake 20 = .ok (.ifCond .eq 42, 3) := by decide +kernel
theorem dL_stake_23 : decode cL_stake 23 = .ok (.aload 4, 2) := by decide +kernel
theorem dL_stake_25 : decode cL_stake 25 = .ok (.bipush 8, 2) := by decide +kernel
theorem dL_stake_27 : decode cL_stake 27 = .ok (.iload_n 0, 1) := by decide +kernel
theorem dL_stake_28 : decode cL_stake 28 = .ok (.imul, 1) := by decide +kernel
theorem dL_stake_29 : decode cL_stake 29 = .ok (.iload_n 0, 1) := by decide +kernel
theorem dL_stake_30 : decode cL_stake 30 = .ok (.iload_n 1, 1) := by decide +kernel
theorem dL_stake_31 : decode cL_stake 31 = .ok (.aload_n 2, 1) := by decide +kernel
theorem dL_stake_32 : decode cL_stake 32 = .ok (.aload_n 3, 1) := by decide +kernel
theorem dL_stake_33 : decode cL_stake 33 = .ok (.invokestatic 10, 3) := by decide +kernel
theorem dL_stake_36 : decode cL_stake 36 = .ok (.iadd, 1) := by decide +kernel
theorem dL_stake_37 : decode cL_stake 37 = .ok (.iaload, 1) := by decide +kernel
theorem dL_stake_38 : decode cL_stake 38 = .ok (.istore 6, 2) := by decide +kernel
theorem dL_stake_40 : decode cL_stake 40 = .ok (.iload 6, 2) := by decide +kernel
theorem dL_stake_42 : decode cL_stake 42 = .ok (.ifCond .eq 9, 3) := by decide +kernel
theorem dL_stake_45 : decode cL_stake 45 = .ok (.iload 6, 2) := by decide +kernel
theorem dL_stake_47 : decode cL_stake 47 = .ok (.iconst 3, 1) := by decide +kernel
theorem dL_stake_48 : decode cL_stake 48 = .ok (.if_icmp .ne 10, 3) := by decide +kernel
theorem dL_stake_51 : decode cL_stake 51 = .ok (.iconst 2, 1) := by decide +kernel
theorem dL_stake_52 : decode cL_stake 52 = .ok (.iload 5, 2) := by decide +kernel
theorem dL_stake_54 : decode cL_stake 54 = .ok (.imul, 1) := by decide +kernel
theorem dL_stake_55 : decode cL_stake 55 = .ok (.goto 5, 3) := by decide +kernel
theorem dL_stake_58 : decode cL_stake 58 = .ok (.iload 5, 2) := by decide +kernel
theorem dL_stake_60 : decode cL_stake 60 = .ok (.istore 5, 2) := by decide +kernel
theorem dL_stake_62 : decode cL_stake 62 = .ok (.iload 5, 2) := by decide +kernel
theorem dL_stake_64 : decode cL_stake 64 = .ok (.aload_n 3, 1) := by decide +kernel
theorem dL_stake_65 : decode cL_stake 65 = .ok (.bipush 10, 2) := by decide +kernel
theorem dL_stake_67 : decode cL_stake 67 = .ok (.iload_n 0, 1) := by decide +kernel
theorem dL_stake_68 : decode cL_stake 68 = .ok (.imul, 1) := by decide +kernel
theorem dL_stake_69 : decode cL_stake 69 = .ok (.iconst 2, 1) := by decide +kernel
theorem dL_stake_70 : decode cL_stake 70 = .ok (.iadd, 1) := by decide +kernel
theorem dL_stake_71 : decode cL_stake 71 = .ok (.iaload, 1) := by decide +kernel
theorem dL_stake_72 : decode cL_stake 72 = .ok (.if_icmp .le 14, 3) := by decide +kernel
theorem dL_stake_75 : decode cL_stake 75 = .ok (.aload_n 3, 1) := by decide +kernel
theorem dL_stake_76 : decode cL_stake 76 = .ok (.bipush 10, 2) := by decide +kernel
theorem dL_stake_78 : decode cL_stake 78 = .ok (.iload_n 0, 1) := by decide +kernel
theorem dL_stake_79 : decode cL_stake 79 = .ok (.imul, 1) := by decide +kernel
theorem dL_stake_80 : decode cL_stake 80 = .ok (.iconst 2, 1) := by decide +kernel
theorem dL_stake_81 : decode cL_stake 81 = .ok (.iadd, 1) := by decide +kernel
theorem dL_stake_82 : decode cL_stake 82 = .ok (.iaload, 1) := by decide +kernel
theorem dL_stake_83 : decode cL_stake 83 = .ok (.goto 5, 3) := by decide +kernel
theorem dL_stake_86 : decode cL_stake 86 = .ok (.iload 5, 2) := by decide +kernel
theorem dL_stake_88 : decode cL_stake 88 = .ok (.ireturn, 1) := by decide +kernel
theorem dL_pays_0 : decode cL_pays 0 = .ok (.iload_n 1, 1) := by decide +kernel
theorem dL_pays_1 : decode cL_pays 1 = .ok (.aload_n 2, 1) := by decide +kernel
theorem dL_pays_2 : decode cL_pays 2 = .ok (.iconst 2, 1) := by decide +kernel
theorem dL_pays_3 : decode cL_pays 3 = .ok (.iaload, 1) := by decide +kernel
theorem dL_pays_4 : decode cL_pays 4 = .ok (.imul, 1) := by decide +kernel
theorem dL_pays_5 : decode cL_pays 5 = .ok (.bipush 100, 2) := by decide +kernel
theorem dL_pays_7 : decode cL_pays 7 = .ok (.idiv, 1) := by decide +kernel
theorem dL_pays_8 : decode cL_pays 8 = .ok (.istore 5, 2) := by decide +kernel
theorem dL_pays_10 : decode cL_pays 10 = .ok (.iconst 0, 1) := by decide +kernel
theorem dL_pays_11 : decode cL_pays 11 = .ok (.istore 6, 2) := by decide +kernel
theorem dL_pays_13 : decode cL_pays 13 = .ok (.iload 6, 2) := by decide +kernel
theorem dL_pays_15 : decode cL_pays 15 = .ok (.aload_n 2, 1) := by decide +kernel
theorem dL_pays_16 : decode cL_pays 16 = .ok (.bipush 7, 2) := by decide +kernel
theorem dL_pays_18 : decode cL_pays 18 = .ok (.iaload, 1) := by decide +kernel
theorem dL_pays_19 : decode cL_pays 19 = .ok (.if_icmp .ge 108, 3) := by decide +kernel
theorem dL_pays_22 : decode cL_pays 22 = .ok (.aload 4, 2) := by decide +kernel
theorem dL_pays_24 : decode cL_pays 24 = .ok (.iconst 3, 1) := by decide +kernel
theorem dL_pays_25 : decode cL_pays 25 = .ok (.iload 6, 2) := by decide +kernel
theorem dL_pays_27 : decode cL_pays 27 = .ok (.imul, 1) := by decide +kernel
theorem dL_pays_28 : decode cL_pays 28 = .ok (.iconst 1, 1) := by decide +kernel
theorem dL_pays_29 : decode cL_pays 29 = .ok (.iadd, 1) := by decide +kernel
theorem dL_pays_30 : decode cL_pays 30 = .ok (.iaload, 1) := by decide +kernel
theorem dL_pays_31 : decode cL_pays 31 = .ok (.iload_n 0, 1) := by decide +kernel
theorem dL_pays_32 : decode cL_pays 32 = .ok (.if_icmp .eq 6, 3) := by decide +kernel
theorem dL_pays_35 : decode cL_pays 35 = .ok (.goto 86, 3) := by decide +kernel
theorem dL_pays_38 : decode cL_pays 38 = .ok (.iload 5, 2) := by decide +kernel
theorem dL_pays_40 : decode cL_pays 40 = .ok (.aload 4, 2) := by decide +kernel
theorem dL_pays_42 : decode cL_pays 42 = .ok (.iconst 3, 1) := by decide +kernel
theorem dL_pays_43 : decode cL_pays 43 = .ok (.iload 6, 2) := by decide +kernel
theorem dL_pays_45 : decode cL_pays 45 = .ok (.imul, 1) := by decide +kernel
theorem dL_pays_46 : decode cL_pays 46 = .ok (.iconst 2, 1) := by decide +kernel
theorem dL_pays_47 : decode cL_pays 47 = .ok (.iadd, 1) := by decide +kernel
theorem dL_pays_48 : decode cL_pays 48 = .ok (.iaload, 1) := by decide +kernel
theorem dL_pays_49 : decode cL_pays 49 = .ok (.if_icmp .ge 8, 3) := by decide +kernel
theorem dL_pays_52 : decode cL_pays 52 = .ok (.iload 5, 2) := by decide +kernel
theorem dL_pays_54 : decode cL_pays 54 = .ok (.goto 12, 3) := by decide +kernel
theorem dL_pays_57 : decode cL_pays 57 = .ok (.aload 4, 2) := by decide +kernel
theorem dL_pays_59 : decode cL_pays 59 = .ok (.iconst 3, 1) := by decide +kernel
theorem dL_pays_60 : decode cL_pays 60 = .ok (.iload 6, 2) := by decide +kernel
theorem dL_pays_62 : decode cL_pays 62 = .ok (.imul, 1) := by decide +kernel
theorem dL_pays_63 : decode cL_pays 63 = .ok (.iconst 2, 1) := by decide +kernel
theorem dL_pays_64 : decode cL_pays 64 = .ok (.iadd, 1) := by decide +kernel
theorem dL_pays_65 : decode cL_pays 65 = .ok (.iaload, 1) := by decide +kernel
theorem dL_pays_66 : decode cL_pays 66 = .ok (.istore 7, 2) := by decide +kernel
theorem dL_pays_68 : decode cL_pays 68 = .ok (.iload 5, 2) := by decide +kernel
theorem dL_pays_70 : decode cL_pays 70 = .ok (.iload 7, 2) := by decide +kernel
theorem dL_pays_72 : decode cL_pays 72 = .ok (.isub, 1) := by decide +kernel
theorem dL_pays_73 : decode cL_pays 73 = .ok (.istore 5, 2) := by decide +kernel
theorem dL_pays_75 : decode cL_pays 75 = .ok (.aload 4, 2) := by decide +kernel
theorem dL_pays_77 : decode cL_pays 77 = .ok (.iconst 3, 1) := by decide +kernel
theorem dL_pays_78 : decode cL_pays 78 = .ok (.iload 6, 2) := by decide +kernel
theorem dL_pays_80 : decode cL_pays 80 = .ok (.imul, 1) := by decide +kernel
theorem dL_pays_81 : decode cL_pays 81 = .ok (.iconst 2, 1) := by decide +kernel
theorem dL_pays_82 : decode cL_pays 82 = .ok (.iadd, 1) := by decide +kernel
theorem dL_pays_83 : decode cL_pays 83 = .ok (.dup2, 1) := by decide +kernel
theorem dL_pays_84 : decode cL_pays 84 = .ok (.iaload, 1) := by decide +kernel
theorem dL_pays_85 : decode cL_pays 85 = .ok (.iload 7, 2) := by decide +kernel
theorem dL_pays_87 : decode cL_pays 87 = .ok (.isub, 1) := by decide +kernel
theorem dL_pays_88 : decode cL_pays 88 = .ok (.iastore, 1) := by decide +kernel
theorem dL_pays_89 : decode cL_pays 89 = .ok (.aload_n 3, 1) := by decide +kernel
theorem dL_pays_90 : decode cL_pays 90 = .ok (.bipush 10, 2) := by decide +kernel
theorem dL_pays_92 : decode cL_pays 92 = .ok (.iload_n 0, 1) := by decide +kernel
theorem dL_pays_93 : decode cL_pays 93 = .ok (.imul, 1) := by decide +kernel
theorem dL_pays_94 : decode cL_pays 94 = .ok (.iconst 2, 1) := by decide +kernel
theorem dL_pays_95 : decode cL_pays 95 = .ok (.iadd, 1) := by decide +kernel
theorem dL_pays_96 : decode cL_pays 96 = .ok (.dup2, 1) := by decide +kernel
theorem dL_pays_97 : decode cL_pays 97 = .ok (.iaload, 1) := by decide +kernel
theorem dL_pays_98 : decode cL_pays 98 = .ok (.iload 7, 2) := by decide +kernel
theorem dL_pays_100 : decode cL_pays 100 = .ok (.isub, 1) := by decide +kernel
theorem dL_pays_101 : decode cL_pays 101 = .ok (.iastore, 1) := by decide +kernel
theorem dL_pays_102 : decode cL_pays 102 = .ok (.aload_n 3, 1) := by decide +kernel
theorem dL_pays_103 : decode cL_pays 103 = .ok (.bipush 10, 2) := by decide +kernel
theorem dL_pays_105 : decode cL_pays 105 = .ok (.aload 4, 2) := by decide +kernel
theorem dL_pays_107 : decode cL_pays 107 = .ok (.iconst 3, 1) := by decide +kernel
theorem dL_pays_108 : decode cL_pays 108 = .ok (.iload 6, 2) := by decide +kernel
theorem dL_pays_110 : decode cL_pays 110 = .ok (.imul, 1) := by decide +kernel
theorem dL_pays_111 : decode cL_pays 111 = .ok (.iaload, 1) := by decide +kernel
theorem dL_pays_112 : decode cL_pays 112 = .ok (.imul, 1) := by decide +kernel
theorem dL_pays_113 : decode cL_pays 113 = .ok (.iconst 2, 1) := by decide +kernel
theorem dL_pays_114 : decode cL_pays 114 = .ok (.iadd, 1) := by decide +kernel
theorem dL_pays_115 : decode cL_pays 115 = .ok (.dup2, 1) := by decide +kernel
theorem dL_pays_116 : decode cL_pays 116 = .ok (.iaload, 1) := by decide +kernel
theorem dL_pays_117 : decode cL_pays 117 = .ok (.iload 7, 2) := by decide +kernel
theorem dL_pays_119 : decode cL_pays 119 = .ok (.iadd, 1) := by decide +kernel
theorem dL_pays_120 : decode cL_pays 120 = .ok (.iastore, 1) := by decide +kernel
theorem dL_pays_121 : decode cL_pays 121 = .ok (.iinc 6 1, 3) := by decide +kernel
theorem dL_pays_124 : decode cL_pays 124 = .ok (.goto (-111), 3) := by decide +kernel
theorem dL_pays_127 : decode cL_pays 127 = .ok (.iconst 0, 1) := by decide +kernel
theorem dL_pays_128 : decode cL_pays 128 = .ok (.istore 6, 2) := by decide +kernel
theorem dL_pays_130 : decode cL_pays 130 = .ok (.iconst 0, 1) := by decide +kernel
theorem dL_pays_131 : decode cL_pays 131 = .ok (.istore 7, 2) := by decide +kernel
theorem dL_pays_133 : decode cL_pays 133 = .ok (.iload 7, 2) := by decide +kernel
theorem dL_pays_135 : decode cL_pays 135 = .ok (.aload_n 2, 1) := by decide +kernel
theorem dL_pays_136 : decode cL_pays 136 = .ok (.bipush 7, 2) := by decide +kernel
theorem dL_pays_138 : decode cL_pays 138 = .ok (.iaload, 1) := by decide +kernel
theorem dL_pays_139 : decode cL_pays 139 = .ok (.if_icmp .ge 83, 3) := by decide +kernel
theorem dL_pays_142 : decode cL_pays 142 = .ok (.aload 4, 2) := by decide +kernel
theorem dL_pays_144 : decode cL_pays 144 = .ok (.iconst 3, 1) := by decide +kernel
theorem dL_pays_145 : decode cL_pays 145 = .ok (.iload 7, 2) := by decide +kernel
theorem dL_pays_147 : decode cL_pays 147 = .ok (.imul, 1) := by decide +kernel
theorem dL_pays_148 : decode cL_pays 148 = .ok (.iconst 2, 1) := by decide +kernel
theorem dL_pays_149 : decode cL_pays 149 = .ok (.iadd, 1) := by decide +kernel
theorem dL_pays_150 : decode cL_pays 150 = .ok (.iaload, 1) := by decide +kernel
theorem dL_pays_151 : decode cL_pays 151 = .ok (.ifCond .le 7, 3) := by decide +kernel
theorem dL_pays_154 : decode cL_pays 154 = .ok (.iconst 1, 1) := by decide +kernel
theorem dL_pays_155 : decode cL_pays 155 = .ok (.goto 4, 3) := by decide +kernel
theorem dL_pays_158 : decode cL_pays 158 = .ok (.iconst 0, 1) := by decide +kernel
theorem dL_pays_159 : decode cL_pays 159 = .ok (.istore 8, 2) := by decide +kernel
theorem dL_pays_161 : decode cL_pays 161 = .ok (.iconst 0, 1) := by decide +kernel
theorem dL_pays_162 : decode cL_pays 162 = .ok (.istore 9, 2) := by decide +kernel
theorem dL_pays_164 : decode cL_pays 164 = .ok (.iload 9, 2) := by decide +kernel
theorem dL_pays_166 : decode cL_pays 166 = .ok (.iconst 3, 1) := by decide +kernel
theorem dL_pays_167 : decode cL_pays 167 = .ok (.if_icmp .ge 34, 3) := by decide +kernel
theorem dL_pays_170 : decode cL_pays 170 = .ok (.iload 8, 2) := by decide +kernel
theorem dL_pays_172 : decode cL_pays 172 = .ok (.ifCond .eq 29, 3) := by decide +kernel
theorem dL_pays_175 : decode cL_pays 175 = .ok (.aload 4, 2) := by decide +kernel
theorem dL_pays_177 : decode cL_pays 177 = .ok (.iconst 3, 1) := by decide +kernel
theorem dL_pays_178 : decode cL_pays 178 = .ok (.iload 6, 2) := by decide +kernel
theorem dL_pays_180 : decode cL_pays 180 = .ok (.imul, 1) := by decide +kernel
theorem dL_pays_181 : decode cL_pays 181 = .ok (.iload 9, 2) := by decide +kernel
theorem dL_pays_183 : decode cL_pays 183 = .ok (.iadd, 1) := by decide +kernel
theorem dL_pays_184 : decode cL_pays 184 = .ok (.aload 4, 2) := by decide +kernel
theorem dL_pays_186 : decode cL_pays 186 = .ok (.iconst 3, 1) := by decide +kernel
theorem dL_pays_187 : decode cL_pays 187 = .ok (.iload 7, 2) := by decide +kernel
theorem dL_pays_189 : decode cL_pays 189 = .ok (.imul, 1) := by decide +kernel
theorem dL_pays_190 : decode cL_pays 190 = .ok (.iload 9, 2) := by decide +kernel
theorem dL_pays_192 : decode cL_pays 192 = .ok (.iadd, 1) := by decide +kernel
theorem dL_pays_193 : decode cL_pays 193 = .ok (.iaload, 1) := by decide +kernel
theorem dL_pays_194 : decode cL_pays 194 = .ok (.iastore, 1) := by decide +kernel
theorem dL_pays_195 : decode cL_pays 195 = .ok (.iinc 9 1, 3) := by decide +kernel
theorem dL_pays_198 : decode cL_pays 198 = .ok (.goto (-34), 3) := by decide +kernel
theorem dL_pays_201 : decode cL_pays 201 = .ok (.iload 6, 2) := by decide +kernel
theorem dL_pays_203 : decode cL_pays 203 = .ok (.iload 8, 2) := by decide +kernel
theorem dL_pays_205 : decode cL_pays 205 = .ok (.ifCond .eq 7, 3) := by decide +kernel
theorem dL_pays_208 : decode cL_pays 208 = .ok (.iconst 1, 1) := by decide +kernel
theorem dL_pays_209 : decode cL_pays 209 = .ok (.goto 4, 3) := by decide +kernel
theorem dL_pays_212 : decode cL_pays 212 = .ok (.iconst 0, 1) := by decide +kernel
theorem dL_pays_213 : decode cL_pays 213 = .ok (.iadd, 1) := by decide +kernel
theorem dL_pays_214 : decode cL_pays 214 = .ok (.istore 6, 2) := by decide +kernel
theorem dL_pays_216 : decode cL_pays 216 = .ok (.iinc 7 1, 3) := by decide +kernel
theorem dL_pays_219 : decode cL_pays 219 = .ok (.goto (-86), 3) := by decide +kernel
theorem dL_pays_222 : decode cL_pays 222 = .ok (.aload_n 2, 1) := by decide +kernel
theorem dL_pays_223 : decode cL_pays 223 = .ok (.bipush 7, 2) := by decide +kernel
theorem dL_pays_225 : decode cL_pays 225 = .ok (.iload 6, 2) := by decide +kernel
theorem dL_pays_227 : decode cL_pays 227 = .ok (.iastore, 1) := by decide +kernel
theorem dL_pays_228 : decode cL_pays 228 = .ok (.return_, 1) := by decide +kernel
theorem dL_branch_0 : decode cL_branch 0 = .ok (.iconst 0, 1) := by decide +kernel
theorem dL_branch_1 : decode cL_branch 1 = .ok (.istore 7, 2) := by decide +kernel
theorem dL_branch_3 : decode cL_branch 3 = .ok (.iconst 0, 1) := by decide +kernel
theorem dL_branch_4 : decode cL_branch 4 = .ok (.istore 8, 2) := by decide +kernel
theorem dL_branch_6 : decode cL_branch 6 = .ok (.iconst 0, 1) := by decide +kernel
theorem dL_branch_7 : decode cL_branch 7 = .ok (.istore 9, 2) := by decide +kernel
theorem dL_branch_9 : decode cL_branch 9 = .ok (.iload 9, 2) := by decide +kernel
theorem dL_branch_11 : decode cL_branch 11 = .ok (.iconst 5, 1) := by decide +kernel
theorem dL_branch_12 : decode cL_branch 12 = .ok (.if_icmp .ge 108, 3) := by decide +kernel
theorem dL_branch_15 : decode cL_branch 15 = .ok (.aload 6, 2) := by decide +kernel
theorem dL_branch_17 : decode cL_branch 17 = .ok (.iload 9, 2) := by decide +kernel
theorem dL_branch_19 : decode cL_branch 19 = .ok (.iload 9, 2) := by decide +kernel
theorem dL_branch_21 : decode cL_branch 21 = .ok (.iload_n 0, 1) := by decide +kernel
theorem dL_branch_22 : decode cL_branch 22 = .ok (.aload_n 2, 1) := by decide +kernel
theorem dL_branch_23 : decode cL_branch 23 = .ok (.aload_n 3, 1) := by decide +kernel
theorem dL_branch_24 : decode cL_branch 24 = .ok (.aload 4, 2) := by decide +kernel
theorem dL_branch_26 : decode cL_branch 26 = .ok (.invokestatic 27, 3) := by decide +kernel
theorem dL_branch_29 : decode cL_branch 29 = .ok (.iastore, 1) := by decide +kernel
theorem dL_branch_30 : decode cL_branch 30 = .ok (.aload 6, 2) := by decide +kernel
theorem dL_branch_32 : decode cL_branch 32 = .ok (.iconst 5, 1) := by decide +kernel
theorem dL_branch_33 : decode cL_branch 33 = .ok (.iload 9, 2) := by decide +kernel
theorem dL_branch_35 : decode cL_branch 35 = .ok (.iadd, 1) := by decide +kernel
theorem dL_branch_36 : decode cL_branch 36 = .ok (.iload 9, 2) := by decide +kernel
theorem dL_branch_38 : decode cL_branch 38 = .ok (.iload_n 0, 1) := by decide +kernel
theorem dL_branch_39 : decode cL_branch 39 = .ok (.aload_n 2, 1) := by decide +kernel
theorem dL_branch_40 : decode cL_branch 40 = .ok (.aload_n 3, 1) := by decide +kernel
theorem dL_branch_41 : decode cL_branch 41 = .ok (.aload 4, 2) := by decide +kernel
theorem dL_branch_43 : decode cL_branch 43 = .ok (.invokestatic 30, 3) := by decide +kernel
theorem dL_branch_46 : decode cL_branch 46 = .ok (.iastore, 1) := by decide +kernel
theorem dL_branch_47 : decode cL_branch 47 = .ok (.aload 6, 2) := by decide +kernel
theorem dL_branch_49 : decode cL_branch 49 = .ok (.bipush 10, 2) := by decide +kernel
theorem dL_branch_51 : decode cL_branch 51 = .ok (.iload 9, 2) := by decide +kernel
theorem dL_branch_53 : decode cL_branch 53 = .ok (.iadd, 1) := by decide +kernel
theorem dL_branch_54 : decode cL_branch 54 = .ok (.aload_n 3, 1) := by decide +kernel
theorem dL_branch_55 : decode cL_branch 55 = .ok (.bipush 10, 2) := by decide +kernel
theorem dL_branch_57 : decode cL_branch 57 = .ok (.iload 9, 2) := by decide +kernel
theorem dL_branch_59 : decode cL_branch 59 = .ok (.imul, 1) := by decide +kernel
theorem dL_branch_60 : decode cL_branch 60 = .ok (.iconst 2, 1) := by decide +kernel
theorem dL_branch_61 : decode cL_branch 61 = .ok (.iadd, 1) := by decide +kernel
theorem dL_branch_62 : decode cL_branch 62 = .ok (.iaload, 1) := by decide +kernel
theorem dL_branch_63 : decode cL_branch 63 = .ok (.iastore, 1) := by decide +kernel
theorem dL_branch_64 : decode cL_branch 64 = .ok (.iload 7, 2) := by decide +kernel
theorem dL_branch_66 : decode cL_branch 66 = .ok (.aload 6, 2) := by decide +kernel
theorem dL_branch_68 : decode cL_branch 68 = .ok (.iload 9, 2) := by decide +kernel
theorem dL_branch_70 : decode cL_branch 70 = .ok (.iaload, 1) := by decide +kernel
theorem dL_branch_71 : decode cL_branch 71 = .ok (.iload_n 1, 1) := by decide +kernel
theorem dL_branch_72 : decode cL_branch 72 = .ok (.if_icmp .eq 13, 3) := by decide +kernel
theorem dL_branch_75 : decode cL_branch 75 = .ok (.aload 6, 2) := by decide +kernel
theorem dL_branch_77 : decode cL_branch 77 = .ok (.iconst 5, 1) := by decide +kernel
theorem dL_branch_78 : decode cL_branch 78 = .ok (.iload 9, 2) := by decide +kernel
theorem dL_branch_80 : decode cL_branch 80 = .ok (.iadd, 1) := by decide +kernel
theorem dL_branch_81 : decode cL_branch 81 = .ok (.iaload, 1) := by decide +kernel
theorem dL_branch_82 : decode cL_branch 82 = .ok (.goto 4, 3) := by decide +kernel
theorem dL_branch_85 : decode cL_branch 85 = .ok (.iconst 0, 1) := by decide +kernel
theorem dL_branch_86 : decode cL_branch 86 = .ok (.iadd, 1) := by decide +kernel
theorem dL_branch_87 : decode cL_branch 87 = .ok (.istore 7, 2) := by decide +kernel
theorem dL_branch_89 : decode cL_branch 89 = .ok (.iload 8, 2) := by decide +kernel
theorem dL_branch_91 : decode cL_branch 91 = .ok (.aload 6, 2) := by decide +kernel
theorem dL_branch_93 : decode cL_branch 93 = .ok (.iload 9, 2) := by decide +kernel
theorem dL_branch_95 : decode cL_branch 95 = .ok (.iaload, 1) := by decide +kernel
theorem dL_branch_96 : decode cL_branch 96 = .ok (.iload_n 1, 1) := by decide +kernel
theorem dL_branch_97 : decode cL_branch 97 = .ok (.if_icmp .ne 13, 3) := by decide +kernel
theorem dL_branch_100 : decode cL_branch 100 = .ok (.aload 6, 2) := by decide +kernel
theorem dL_branch_102 : decode cL_branch 102 = .ok (.iconst 5, 1) := by decide +kernel
theorem dL_branch_103 : decode cL_branch 103 = .ok (.iload 9, 2) := by decide +kernel
theorem dL_branch_105 : decode cL_branch 105 = .ok (.iadd, 1) := by decide +kernel
theorem dL_branch_106 : decode cL_branch 106 = .ok (.iaload, 1) := by decide +kernel
theorem dL_branch_107 : decode cL_branch 107 = .ok (.goto 4, 3) := by decide +kernel
theorem dL_branch_110 : decode cL_branch 110 = .ok (.iconst 0, 1) := by decide +kernel
theorem dL_branch_111 : decode cL_branch 111 = .ok (.iadd, 1) := by decide +kernel
theorem dL_branch_112 : decode cL_branch 112 = .ok (.istore 8, 2) := by decide +kernel
theorem dL_branch_114 : decode cL_branch 114 = .ok (.iinc 9 1, 3) := by decide +kernel
theorem dL_branch_117 : decode cL_branch 117 = .ok (.goto (-108), 3) := by decide +kernel
theorem dL_branch_120 : decode cL_branch 120 = .ok (.iload 7, 2) := by decide +kernel
theorem dL_branch_122 : decode cL_branch 122 = .ok (.ifCond .le 12, 3) := by decide +kernel
theorem dL_branch_125 : decode cL_branch 125 = .ok (.iload 8, 2) := by decide +kernel
theorem dL_branch_127 : decode cL_branch 127 = .ok (.ifCond .le 7, 3) := by decide +kernel
theorem dL_branch_130 : decode cL_branch 130 = .ok (.iconst 1, 1) := by decide +kernel
theorem dL_branch_131 : decode cL_branch 131 = .ok (.goto 4, 3) := by decide +kernel
theorem dL_branch_134 : decode cL_branch 134 = .ok (.iconst 0, 1) := by decide +kernel
theorem dL_branch_135 : decode cL_branch 135 = .ok (.istore 9, 2) := by decide +kernel
theorem dL_branch_137 : decode cL_branch 137 = .ok (.iload 7, 2) := by decide +kernel
theorem dL_branch_139 : decode cL_branch 139 = .ok (.istore 10, 2) := by decide +kernel
theorem dL_branch_141 : decode cL_branch 141 = .ok (.iconst 0, 1) := by decide +kernel
theorem dL_branch_142 : decode cL_branch 142 = .ok (.istore 11, 2) := by decide +kernel
theorem dL_branch_144 : decode cL_branch 144 = .ok (.iload 11, 2) := by decide +kernel
theorem dL_branch_146 : decode cL_branch 146 = .ok (.iconst 5, 1) := by decide +kernel
theorem dL_branch_147 : decode cL_branch 147 = .ok (.if_icmp .ge 46, 3) := by decide +kernel
theorem dL_branch_150 : decode cL_branch 150 = .ok (.iload 9, 2) := by decide +kernel
theorem dL_branch_152 : decode cL_branch 152 = .ok (.ifCond .eq 41, 3) := by decide +kernel
theorem dL_branch_155 : decode cL_branch 155 = .ok (.aload_n 3, 1) := by decide +kernel
theorem dL_branch_156 : decode cL_branch 156 = .ok (.bipush 10, 2) := by decide +kernel
theorem dL_branch_158 : decode cL_branch 158 = .ok (.iload 11, 2) := by decide +kernel
theorem dL_branch_160 : decode cL_branch 160 = .ok (.imul, 1) := by decide +kernel
theorem dL_branch_161 : decode cL_branch 161 = .ok (.iconst 2, 1) := by decide +kernel
theorem dL_branch_162 : decode cL_branch 162 = .ok (.iadd, 1) := by decide +kernel
theorem dL_branch_163 : decode cL_branch 163 = .ok (.dup2, 1) := by decide +kernel
theorem dL_branch_164 : decode cL_branch 164 = .ok (.iaload, 1) := by decide +kernel
theorem dL_branch_165 : decode cL_branch 165 = .ok (.aload 6, 2) := by decide +kernel
theorem dL_branch_167 : decode cL_branch 167 = .ok (.iload 11, 2) := by decide +kernel
theorem dL_branch_169 : decode cL_branch 169 = .ok (.iaload, 1) := by decide +kernel
theorem dL_branch_170 : decode cL_branch 170 = .ok (.iload_n 1, 1) := by decide +kernel
theorem dL_branch_171 : decode cL_branch 171 = .ok (.if_icmp .eq 13, 3) := by decide +kernel
theorem dL_branch_174 : decode cL_branch 174 = .ok (.aload 6, 2) := by decide +kernel
theorem dL_branch_176 : decode cL_branch 176 = .ok (.iconst 5, 1) := by decide +kernel
theorem dL_branch_177 : decode cL_branch 177 = .ok (.iload 11, 2) := by decide +kernel
theorem dL_branch_179 : decode cL_branch 179 = .ok (.iadd, 1) := by decide +kernel
theorem dL_branch_180 : decode cL_branch 180 = .ok (.iaload, 1) := by decide +kernel
theorem dL_branch_181 : decode cL_branch 181 = .ok (.goto 4, 3) := by decide +kernel
theorem dL_branch_184 : decode cL_branch 184 = .ok (.iconst 0, 1) := by decide +kernel
theorem dL_branch_185 : decode cL_branch 185 = .ok (.isub, 1) := by decide +kernel
theorem dL_branch_186 : decode cL_branch 186 = .ok (.iastore, 1) := by decide +kernel
theorem dL_branch_187 : decode cL_branch 187 = .ok (.iinc 11 1, 3) := by decide +kernel
theorem dL_branch_190 : decode cL_branch 190 = .ok (.goto (-46), 3) := by decide +kernel
theorem dL_branch_193 : decode cL_branch 193 = .ok (.iconst 0, 1) := by decide +kernel
theorem dL_branch_194 : decode cL_branch 194 = .ok (.istore 11, 2) := by decide +kernel
theorem dL_branch_196 : decode cL_branch 196 = .ok (.iload 11, 2) := by decide +kernel
theorem dL_branch_198 : decode cL_branch 198 = .ok (.iconst 5, 1) := by decide +kernel
theorem dL_branch_199 : decode cL_branch 199 = .ok (.if_icmp .ge 92, 3) := by decide +kernel
theorem dL_branch_202 : decode cL_branch 202 = .ok (.iload 9, 2) := by decide +kernel
theorem dL_branch_204 : decode cL_branch 204 = .ok (.ifCond .eq 87, 3) := by decide +kernel
theorem dL_branch_207 : decode cL_branch 207 = .ok (.aload 6, 2) := by decide +kernel
theorem dL_branch_209 : decode cL_branch 209 = .ok (.iload 11, 2) := by decide +kernel
theorem dL_branch_211 : decode cL_branch 211 = .ok (.iaload, 1) := by decide +kernel
theorem dL_branch_212 : decode cL_branch 212 = .ok (.iload_n 1, 1) := by decide +kernel
theorem dL_branch_213 : decode cL_branch 213 = .ok (.if_icmp .ne 29, 3) := by decide +kernel
theorem dL_branch_216 : decode cL_branch 216 = .ok (.iload 7, 2) := by decide +kernel
theorem dL_branch_218 : decode cL_branch 218 = .ok (.iload 7, 2) := by decide +kernel
theorem dL_branch_220 : decode cL_branch 220 = .ok (.aload_n 2, 1) := by decide +kernel
theorem dL_branch_221 : decode cL_branch 221 = .ok (.iconst 1, 1) := by decide +kernel
theorem dL_branch_222 : decode cL_branch 222 = .ok (.iaload, 1) := by decide +kernel
theorem dL_branch_223 : decode cL_branch 223 = .ok (.imul, 1) := by decide +kernel
theorem dL_branch_224 : decode cL_branch 224 = .ok (.bipush 100, 2) := by decide +kernel
theorem dL_branch_226 : decode cL_branch 226 = .ok (.idiv, 1) := by decide +kernel
theorem dL_branch_227 : decode cL_branch 227 = .ok (.isub, 1) := by decide +kernel
theorem dL_branch_228 : decode cL_branch 228 = .ok (.aload 6, 2) := by decide +kernel
theorem dL_branch_230 : decode cL_branch 230 = .ok (.iconst 5, 1) := by decide +kernel
theorem dL_branch_231 : decode cL_branch 231 = .ok (.iload 11, 2) := by decide +kernel
theorem dL_branch_233 : decode cL_branch 233 = .ok (.iadd, 1) := by decide +kernel
theorem dL_branch_234 : decode cL_branch 234 = .ok (.iaload, 1) := by decide +kernel
theorem dL_branch_235 : decode cL_branch 235 = .ok (.imul, 1) := by decide +kernel
theorem dL_branch_236 : decode cL_branch 236 = .ok (.iload 8, 2) := by decide +kernel
theorem dL_branch_238 : decode cL_branch 238 = .ok (.idiv, 1) := by decide +kernel
theorem dL_branch_239 : decode cL_branch 239 = .ok (.goto 4, 3) := by decide +kernel
theorem dL_branch_242 : decode cL_branch 242 = .ok (.iconst 0, 1) := by decide +kernel
theorem dL_branch_243 : decode cL_branch 243 = .ok (.istore 12, 2) := by decide +kernel
theorem dL_branch_245 : decode cL_branch 245 = .ok (.iload 12, 2) := by decide +kernel
theorem dL_branch_247 : decode cL_branch 247 = .ok (.ifCond .ne 6, 3) := by decide +kernel
theorem dL_branch_250 : decode cL_branch 250 = .ok (.goto 35, 3) := by decide +kernel
theorem dL_branch_253 : decode cL_branch 253 = .ok (.iload 10, 2) := by decide +kernel
theorem dL_branch_255 : decode cL_branch 255 = .ok (.iload 12, 2) := by decide +kernel
theorem dL_branch_257 : decode cL_branch 257 = .ok (.isub, 1) := by decide +kernel
theorem dL_branch_258 : decode cL_branch 258 = .ok (.istore 10, 2) := by decide +kernel
theorem dL_branch_260 : decode cL_branch 260 = .ok (.aload_n 3, 1) := by decide +kernel
theorem dL_branch_261 : decode cL_branch 261 = .ok (.bipush 10, 2) := by decide +kernel
theorem dL_branch_263 : decode cL_branch 263 = .ok (.iload 11, 2) := by decide +kernel
theorem dL_branch_265 : decode cL_branch 265 = .ok (.imul, 1) := by decide +kernel
theorem dL_branch_266 : decode cL_branch 266 = .ok (.iconst 2, 1) := by decide +kernel
theorem dL_branch_267 : decode cL_branch 267 = .ok (.iadd, 1) := by decide +kernel
theorem dL_branch_268 : decode cL_branch 268 = .ok (.dup2, 1) := by decide +kernel
theorem dL_branch_269 : decode cL_branch 269 = .ok (.iaload, 1) := by decide +kernel
theorem dL_branch_270 : decode cL_branch 270 = .ok (.iload 12, 2) := by decide +kernel
theorem dL_branch_272 : decode cL_branch 272 = .ok (.iadd, 1) := by decide +kernel
theorem dL_branch_273 : decode cL_branch 273 = .ok (.iastore, 1) := by decide +kernel
theorem dL_branch_274 : decode cL_branch 274 = .ok (.iload 11, 2) := by decide +kernel
theorem dL_branch_276 : decode cL_branch 276 = .ok (.iload 12, 2) := by decide +kernel
theorem dL_branch_278 : decode cL_branch 278 = .ok (.aload_n 2, 1) := by decide +kernel
theorem dL_branch_279 : decode cL_branch 279 = .ok (.aload_n 3, 1) := by decide +kernel
theorem dL_branch_280 : decode cL_branch 280 = .ok (.aload 5, 2) := by decide +kernel
theorem dL_branch_282 : decode cL_branch 282 = .ok (.invokestatic 33, 3) := by decide +kernel
theorem dL_branch_285 : decode cL_branch 285 = .ok (.iinc 11 1, 3) := by decide +kernel
theorem dL_branch_288 : decode cL_branch 288 = .ok (.goto (-92), 3) := by decide +kernel
theorem dL_branch_291 : decode cL_branch 291 = .ok (.aload_n 2, 1) := by decide +kernel
theorem dL_branch_292 : decode cL_branch 292 = .ok (.iconst 4, 1) := by decide +kernel
theorem dL_branch_293 : decode cL_branch 293 = .ok (.dup2, 1) := by decide +kernel
theorem dL_branch_294 : decode cL_branch 294 = .ok (.iaload, 1) := by decide +kernel
theorem dL_branch_295 : decode cL_branch 295 = .ok (.iload 9, 2) := by decide +kernel
theorem dL_branch_297 : decode cL_branch 297 = .ok (.ifCond .eq 8, 3) := by decide +kernel
theorem dL_branch_300 : decode cL_branch 300 = .ok (.iload 10, 2) := by decide +kernel
theorem dL_branch_302 : decode cL_branch 302 = .ok (.goto 4, 3) := by decide +kernel
theorem dL_branch_305 : decode cL_branch 305 = .ok (.iconst 0, 1) := by decide +kernel
theorem dL_branch_306 : decode cL_branch 306 = .ok (.iadd, 1) := by decide +kernel
theorem dL_branch_307 : decode cL_branch 307 = .ok (.iastore, 1) := by decide +kernel
theorem dL_branch_308 : decode cL_branch 308 = .ok (.aload_n 2, 1) := by decide +kernel
theorem dL_branch_309 : decode cL_branch 309 = .ok (.bipush 6, 2) := by decide +kernel
theorem dL_branch_311 : decode cL_branch 311 = .ok (.dup2, 1) := by decide +kernel
theorem dL_branch_312 : decode cL_branch 312 = .ok (.iaload, 1) := by decide +kernel
theorem dL_branch_313 : decode cL_branch 313 = .ok (.iload 9, 2) := by decide +kernel
theorem dL_branch_315 : decode cL_branch 315 = .ok (.ifCond .eq 7, 3) := by decide +kernel
theorem dL_branch_318 : decode cL_branch 318 = .ok (.iconst 1, 1) := by decide +kernel
theorem dL_branch_319 : decode cL_branch 319 = .ok (.goto 4, 3) := by decide +kernel
theorem dL_branch_322 : decode cL_branch 322 = .ok (.iconst 0, 1) := by decide +kernel
theorem dL_branch_323 : decode cL_branch 323 = .ok (.iadd, 1) := by decide +kernel
theorem dL_branch_324 : decode cL_branch 324 = .ok (.iastore, 1) := by decide +kernel
theorem dL_branch_325 : decode cL_branch 325 = .ok (.iconst 0, 1) := by decide +kernel
theorem dL_branch_326 : decode cL_branch 326 = .ok (.istore 11, 2) := by decide +kernel
theorem dL_branch_328 : decode cL_branch 328 = .ok (.iload 11, 2) := by decide +kernel
theorem dL_branch_330 : decode cL_branch 330 = .ok (.iconst 5, 1) := by decide +kernel
theorem dL_branch_331 : decode cL_branch 331 = .ok (.if_icmp .ge 240, 3) := by decide +kernel
theorem dL_branch_334 : decode cL_branch 334 = .ok (.aload_n 3, 1) := by decide +kernel
theorem dL_branch_335 : decode cL_branch 335 = .ok (.bipush 10, 2) := by decide +kernel
theorem dL_branch_337 : decode cL_branch 337 = .ok (.iload 11, 2) := by decide +kernel
theorem dL_branch_339 : decode cL_branch 339 = .ok (.imul, 1) := by decide +kernel
theorem dL_branch_340 : decode cL_branch 340 = .ok (.iconst 3, 1) := by decide +kernel
theorem dL_branch_341 : decode cL_branch 341 = .ok (.iadd, 1) := by decide +kernel
theorem dL_branch_342 : decode cL_branch 342 = .ok (.iaload, 1) := by decide +kernel
theorem dL_branch_343 : decode cL_branch 343 = .ok (.ifCond .lt 110, 3) := by decide +kernel
theorem dL_branch_346 : decode cL_branch 346 = .ok (.aload 6, 2) := by decide +kernel
theorem dL_branch_348 : decode cL_branch 348 = .ok (.bipush 10, 2) := by decide +kernel
theorem dL_branch_350 : decode cL_branch 350 = .ok (.iload 11, 2) := by decide +kernel
theorem dL_branch_352 : decode cL_branch 352 = .ok (.iadd, 1) := by decide +kernel
theorem dL_branch_353 : decode cL_branch 353 = .ok (.iaload, 1) := by decide +kernel
theorem dL_branch_354 : decode cL_branch 354 = .ok (.ifCond .le 99, 3) := by decide +kernel
theorem dL_branch_357 : decode cL_branch 357 = .ok (.aload 6, 2) := by decide +kernel
theorem dL_branch_359 : decode cL_branch 359 = .ok (.iload 11, 2) := by decide +kernel
theorem dL_branch_361 : decode cL_branch 361 = .ok (.iaload, 1) := by decide +kernel
theorem dL_branch_362 : decode cL_branch 362 = .ok (.iload_n 1, 1) := by decide +kernel
theorem dL_branch_363 : decode cL_branch 363 = .ok (.if_icmp .ne 7, 3) := by decide +kernel
theorem dL_branch_366 : decode cL_branch 366 = .ok (.iconst 1, 1) := by decide +kernel
theorem dL_branch_367 : decode cL_branch 367 = .ok (.goto 4, 3) := by decide +kernel
theorem dL_branch_370 : decode cL_branch 370 = .ok (.iconst 0, 1) := by decide +kernel
theorem dL_branch_371 : decode cL_branch 371 = .ok (.istore 12, 2) := by decide +kernel
theorem dL_branch_373 : decode cL_branch 373 = .ok (.aload_n 3, 1) := by decide +kernel
theorem dL_branch_374 : decode cL_branch 374 = .ok (.bipush 10, 2) := by decide +kernel
theorem dL_branch_376 : decode cL_branch 376 = .ok (.iload 11, 2) := by decide +kernel
theorem dL_branch_378 : decode cL_branch 378 = .ok (.imul, 1) := by decide +kernel
theorem dL_branch_379 : decode cL_branch 379 = .ok (.iconst 4, 1) := by decide +kernel
theorem dL_branch_380 : decode cL_branch 380 = .ok (.iadd, 1) := by decide +kernel
theorem dL_branch_381 : decode cL_branch 381 = .ok (.dup2, 1) := by decide +kernel
theorem dL_branch_382 : decode cL_branch 382 = .ok (.iaload, 1) := by decide +kernel
theorem dL_branch_383 : decode cL_branch 383 = .ok (.iload 12, 2) := by decide +kernel
theorem dL_branch_385 : decode cL_branch 385 = .ok (.ifCond .eq 7, 3) := by decide +kernel
theorem dL_branch_388 : decode cL_branch 388 = .ok (.iconst 1, 1) := by decide +kernel
theorem dL_branch_389 : decode cL_branch 389 = .ok (.goto 4, 3) := by decide +kernel
theorem dL_branch_392 : decode cL_branch 392 = .ok (.iconst 0, 1) := by decide +kernel
theorem dL_branch_393 : decode cL_branch 393 = .ok (.iadd, 1) := by decide +kernel
theorem dL_branch_394 : decode cL_branch 394 = .ok (.iastore, 1) := by decide +kernel
theorem dL_branch_395 : decode cL_branch 395 = .ok (.aload_n 3, 1) := by decide +kernel
theorem dL_branch_396 : decode cL_branch 396 = .ok (.bipush 10, 2) := by decide +kernel
theorem dL_branch_398 : decode cL_branch 398 = .ok (.iload 11, 2) := by decide +kernel
theorem dL_branch_400 : decode cL_branch 400 = .ok (.imul, 1) := by decide +kernel
theorem dL_branch_401 : decode cL_branch 401 = .ok (.iconst 5, 1) := by decide +kernel
theorem dL_branch_402 : decode cL_branch 402 = .ok (.iadd, 1) := by decide +kernel
theorem dL_branch_403 : decode cL_branch 403 = .ok (.dup2, 1) := by decide +kernel
theorem dL_branch_404 : decode cL_branch 404 = .ok (.iaload, 1) := by decide +kernel
theorem dL_branch_405 : decode cL_branch 405 = .ok (.iload 12, 2) := by decide +kernel
theorem dL_branch_407 : decode cL_branch 407 = .ok (.ifCond .eq 7, 3) := by decide +kernel
theorem dL_branch_410 : decode cL_branch 410 = .ok (.iconst 0, 1) := by decide +kernel
theorem dL_branch_411 : decode cL_branch 411 = .ok (.goto 4, 3) := by decide +kernel
theorem dL_branch_414 : decode cL_branch 414 = .ok (.iconst 1, 1) := by decide +kernel
theorem dL_branch_415 : decode cL_branch 415 = .ok (.iadd, 1) := by decide +kernel
theorem dL_branch_416 : decode cL_branch 416 = .ok (.iastore, 1) := by decide +kernel
theorem dL_branch_417 : decode cL_branch 417 = .ok (.aload_n 3, 1) := by decide +kernel
theorem dL_branch_418 : decode cL_branch 418 = .ok (.bipush 10, 2) := by decide +kernel
theorem dL_branch_420 : decode cL_branch 420 = .ok (.iload 11, 2) := by decide +kernel
theorem dL_branch_422 : decode cL_branch 422 = .ok (.imul, 1) := by decide +kernel
theorem dL_branch_423 : decode cL_branch 423 = .ok (.bipush 6, 2) := by decide +kernel
theorem dL_branch_425 : decode cL_branch 425 = .ok (.iadd, 1) := by decide +kernel
theorem dL_branch_426 : decode cL_branch 426 = .ok (.aload_n 3, 1) := by decide +kernel
theorem dL_branch_427 : decode cL_branch 427 = .ok (.bipush 10, 2) := by decide +kernel
theorem dL_branch_429 : decode cL_branch 429 = .ok (.iload 11, 2) := by decide +kernel
theorem dL_branch_431 : decode cL_branch 431 = .ok (.imul, 1) := by decide +kernel
theorem dL_branch_432 : decode cL_branch 432 = .ok (.bipush 6, 2) := by decide +kernel
theorem dL_branch_434 : decode cL_branch 434 = .ok (.iadd, 1) := by decide +kernel
theorem dL_branch_435 : decode cL_branch 435 = .ok (.iaload, 1) := by decide +kernel
theorem dL_branch_436 : decode cL_branch 436 = .ok (.iconst 1, 1) := by decide +kernel
theorem dL_branch_437 : decode cL_branch 437 = .ok (.ishl, 1) := by decide +kernel
theorem dL_branch_438 : decode cL_branch 438 = .ok (.iload 12, 2) := by decide +kernel
theorem dL_branch_440 : decode cL_branch 440 = .ok (.ifCond .eq 7, 3) := by decide +kernel
theorem dL_branch_443 : decode cL_branch 443 = .ok (.iconst 1, 1) := by decide +kernel
theorem dL_branch_444 : decode cL_branch 444 = .ok (.goto 4, 3) := by decide +kernel
theorem dL_branch_447 : decode cL_branch 447 = .ok (.iconst 0, 1) := by decide +kernel
theorem dL_branch_448 : decode cL_branch 448 = .ok (.ior, 1) := by decide +kernel
theorem dL_branch_449 : decode cL_branch 449 = .ok (.ldc 37, 2) := by decide +kernel
theorem dL_branch_451 : decode cL_branch 451 = .ok (.iand, 1) := by decide +kernel
theorem dL_branch_452 : decode cL_branch 452 = .ok (.iastore, 1) := by decide +kernel
theorem dL_branch_453 : decode cL_branch 453 = .ok (.aload_n 3, 1) := by decide +kernel
theorem dL_branch_454 : decode cL_branch 454 = .ok (.bipush 10, 2) := by decide +kernel
theorem dL_branch_456 : decode cL_branch 456 = .ok (.iload 11, 2) := by decide +kernel
theorem dL_branch_458 : decode cL_branch 458 = .ok (.imul, 1) := by decide +kernel
theorem dL_branch_459 : decode cL_branch 459 = .ok (.bipush 7, 2) := by decide +kernel
theorem dL_branch_461 : decode cL_branch 461 = .ok (.iadd, 1) := by decide +kernel
theorem dL_branch_462 : decode cL_branch 462 = .ok (.dup2, 1) := by decide +kernel
theorem dL_branch_463 : decode cL_branch 463 = .ok (.iaload, 1) := by decide +kernel
theorem dL_branch_464 : decode cL_branch 464 = .ok (.aload 6, 2) := by decide +kernel
theorem dL_branch_466 : decode cL_branch 466 = .ok (.bipush 10, 2) := by decide +kernel
theorem dL_branch_468 : decode cL_branch 468 = .ok (.iload 11, 2) := by decide +kernel
theorem dL_branch_470 : decode cL_branch 470 = .ok (.iadd, 1) := by decide +kernel
theorem dL_branch_471 : decode cL_branch 471 = .ok (.iaload, 1) := by decide +kernel
theorem dL_branch_472 : decode cL_branch 472 = .ok (.ifCond .le 19, 3) := by decide +kernel
theorem dL_branch_475 : decode cL_branch 475 = .ok (.aload_n 3, 1) := by decide +kernel
theorem dL_branch_476 : decode cL_branch 476 = .ok (.bipush 10, 2) := by decide +kernel
theorem dL_branch_478 : decode cL_branch 478 = .ok (.iload 11, 2) := by decide +kernel
theorem dL_branch_480 : decode cL_branch 480 = .ok (.imul, 1) := by decide +kernel
theorem dL_branch_481 : decode cL_branch 481 = .ok (.iconst 2, 1) := by decide +kernel
theorem dL_branch_482 : decode cL_branch 482 = .ok (.iadd, 1) := by decide +kernel
theorem dL_branch_483 : decode cL_branch 483 = .ok (.iaload, 1) := by decide +kernel
theorem dL_branch_484 : decode cL_branch 484 = .ok (.ifCond .ne 7, 3) := by decide +kernel
theorem dL_branch_487 : decode cL_branch 487 = .ok (.iconst 1, 1) := by decide +kernel
theorem dL_branch_488 : decode cL_branch 488 = .ok (.goto 4, 3) := by decide +kernel
theorem dL_branch_491 : decode cL_branch 491 = .ok (.iconst 0, 1) := by decide +kernel
theorem dL_branch_492 : decode cL_branch 492 = .ok (.iadd, 1) := by decide +kernel
theorem dL_branch_493 : decode cL_branch 493 = .ok (.iastore, 1) := by decide +kernel
theorem dL_branch_494 : decode cL_branch 494 = .ok (.iload 11, 2) := by decide +kernel
theorem dL_branch_496 : decode cL_branch 496 = .ok (.aload_n 3, 1) := by decide +kernel
theorem dL_branch_497 : decode cL_branch 497 = .ok (.invokestatic 24, 3) := by decide +kernel
theorem dL_branch_500 : decode cL_branch 500 = .ok (.ifCond .ne 6, 3) := by decide +kernel
theorem dL_branch_503 : decode cL_branch 503 = .ok (.goto 62, 3) := by decide +kernel
theorem dL_branch_506 : decode cL_branch 506 = .ok (.bipush 8, 2) := by decide +kernel
theorem dL_branch_508 : decode cL_branch 508 = .ok (.iload 11, 2) := by decide +kernel
theorem dL_branch_510 : decode cL_branch 510 = .ok (.imul, 1) := by decide +kernel
theorem dL_branch_511 : decode cL_branch 511 = .ok (.iload 11, 2) := by decide +kernel
theorem dL_branch_513 : decode cL_branch 513 = .ok (.iload_n 0, 1) := by decide +kernel
theorem dL_branch_514 : decode cL_branch 514 = .ok (.aload_n 2, 1) := by decide +kernel
theorem dL_branch_515 : decode cL_branch 515 = .ok (.aload_n 3, 1) := by decide +kernel
theorem dL_branch_516 : decode cL_branch 516 = .ok (.invokestatic 10, 3) := by decide +kernel
theorem dL_branch_519 : decode cL_branch 519 = .ok (.iadd, 1) := by decide +kernel
theorem dL_branch_520 : decode cL_branch 520 = .ok (.istore 12, 2) := by decide +kernel
theorem dL_branch_522 : decode cL_branch 522 = .ok (.aload 4, 2) := by decide +kernel
theorem dL_branch_524 : decode cL_branch 524 = .ok (.iload 12, 2) := by decide +kernel
theorem dL_branch_526 : decode cL_branch 526 = .ok (.dup2, 1) := by decide +kernel
theorem dL_branch_527 : decode cL_branch 527 = .ok (.iaload, 1) := by decide +kernel
theorem dL_branch_528 : decode cL_branch 528 = .ok (.iload_n 1, 1) := by decide +kernel
theorem dL_branch_529 : decode cL_branch 529 = .ok (.iconst 1, 1) := by decide +kernel
theorem dL_branch_530 : decode cL_branch 530 = .ok (.if_icmp .ne 16, 3) := by decide +kernel
theorem dL_branch_533 : decode cL_branch 533 = .ok (.aload 4, 2) := by decide +kernel
theorem dL_branch_535 : decode cL_branch 535 = .ok (.iload 12, 2) := by decide +kernel
theorem dL_branch_537 : decode cL_branch 537 = .ok (.iaload, 1) := by decide +kernel
theorem dL_branch_538 : decode cL_branch 538 = .ok (.iconst 3, 1) := by decide +kernel
theorem dL_branch_539 : decode cL_branch 539 = .ok (.if_icmp .ge 7, 3) := by decide +kernel
theorem dL_branch_542 : decode cL_branch 542 = .ok (.iconst 1, 1) := by decide +kernel
theorem dL_branch_543 : decode cL_branch 543 = .ok (.goto 20, 3) := by decide +kernel
theorem dL_branch_546 : decode cL_branch 546 = .ok (.iload_n 1, 1) := by decide +kernel
theorem dL_branch_547 : decode cL_branch 547 = .ok (.ifCond .ne 15, 3) := by decide +kernel
theorem dL_branch_550 : decode cL_branch 550 = .ok (.aload 4, 2) := by decide +kernel
theorem dL_branch_552 : decode cL_branch 552 = .ok (.iload 12, 2) := by decide +kernel
theorem dL_branch_554 : decode cL_branch 554 = .ok (.iaload, 1) := by decide +kernel
theorem dL_branch_555 : decode cL_branch 555 = .ok (.ifCond .le 7, 3) := by decide +kernel
theorem dL_branch_558 : decode cL_branch 558 = .ok (.iconst (-1), 1) := by decide +kernel
theorem dL_branch_559 : decode cL_branch 559 = .ok (.goto 4, 3) := by decide +kernel
theorem dL_branch_562 : decode cL_branch 562 = .ok (.iconst 0, 1) := by decide +kernel
theorem dL_branch_563 : decode cL_branch 563 = .ok (.iadd, 1) := by decide +kernel
theorem dL_branch_564 : decode cL_branch 564 = .ok (.iastore, 1) := by decide +kernel
theorem dL_branch_565 : decode cL_branch 565 = .ok (.iinc 11 1, 3) := by decide +kernel
theorem dL_branch_568 : decode cL_branch 568 = .ok (.goto (-240), 3) := by decide +kernel
theorem dL_branch_571 : decode cL_branch 571 = .ok (.aload_n 2, 1) := by decide +kernel
theorem dL_branch_572 : decode cL_branch 572 = .ok (.iconst 3, 1) := by decide +kernel
theorem dL_branch_573 : decode cL_branch 573 = .ok (.aload_n 2, 1) := by decide +kernel
theorem dL_branch_574 : decode cL_branch 574 = .ok (.iconst 3, 1) := by decide +kernel
theorem dL_branch_575 : decode cL_branch 575 = .ok (.iaload, 1) := by decide +kernel
theorem dL_branch_576 : decode cL_branch 576 = .ok (.iconst 1, 1) := by decide +kernel
theorem dL_branch_577 : decode cL_branch 577 = .ok (.ishl, 1) := by decide +kernel
theorem dL_branch_578 : decode cL_branch 578 = .ok (.iload_n 1, 1) := by decide +kernel
theorem dL_branch_579 : decode cL_branch 579 = .ok (.ior, 1) := by decide +kernel
theorem dL_branch_580 : decode cL_branch 580 = .ok (.sipush 255, 3) := by decide +kernel
theorem dL_branch_583 : decode cL_branch 583 = .ok (.iand, 1) := by decide +kernel
theorem dL_branch_584 : decode cL_branch 584 = .ok (.iastore, 1) := by decide +kernel
theorem dL_branch_585 : decode cL_branch 585 = .ok (.aload_n 2, 1) := by decide +kernel
theorem dL_branch_586 : decode cL_branch 586 = .ok (.iconst 5, 1) := by decide +kernel
theorem dL_branch_587 : decode cL_branch 587 = .ok (.dup2, 1) := by decide +kernel
theorem dL_branch_588 : decode cL_branch 588 = .ok (.iaload, 1) := by decide +kernel
theorem dL_branch_589 : decode cL_branch 589 = .ok (.iconst 1, 1) := by decide +kernel
theorem dL_branch_590 : decode cL_branch 590 = .ok (.iadd, 1) := by decide +kernel
theorem dL_branch_591 : decode cL_branch 591 = .ok (.iastore, 1) := by decide +kernel
theorem dL_branch_592 : decode cL_branch 592 = .ok (.iload 9, 2) := by decide +kernel
theorem dL_branch_594 : decode cL_branch 594 = .ok (.ifCond .eq 8, 3) := by decide +kernel
theorem dL_branch_597 : decode cL_branch 597 = .ok (.iload 7, 2) := by decide +kernel
theorem dL_branch_599 : decode cL_branch 599 = .ok (.goto 4, 3) := by decide +kernel
theorem dL_branch_602 : decode cL_branch 602 = .ok (.iconst 0, 1) := by decide +kernel
theorem dL_branch_603 : decode cL_branch 603 = .ok (.ireturn, 1) := by decide +kernel
theorem dL_same_0 : decode cL_same 0 = .ok (.aload_n 2, 1) := by decide +kernel
theorem dL_same_1 : decode cL_same 1 = .ok (.iconst 4, 1) := by decide +kernel
theorem dL_same_2 : decode cL_same 2 = .ok (.iaload, 1) := by decide +kernel
theorem dL_same_3 : decode cL_same 3 = .ok (.istore 6, 2) := by decide +kernel
theorem dL_same_5 : decode cL_same 5 = .ok (.iconst 0, 1) := by decide +kernel
theorem dL_same_6 : decode cL_same 6 = .ok (.istore 7, 2) := by decide +kernel
theorem dL_same_8 : decode cL_same 8 = .ok (.iconst 0, 1) := by decide +kernel
theorem dL_same_9 : decode cL_same 9 = .ok (.istore 8, 2) := by decide +kernel
theorem dL_same_11 : decode cL_same 11 = .ok (.iconst 0, 1) := by decide +kernel
theorem dL_same_12 : decode cL_same 12 = .ok (.istore 9, 2) := by decide +kernel
theorem dL_same_14 : decode cL_same 14 = .ok (.iload 9, 2) := by decide +kernel
theorem dL_same_16 : decode cL_same 16 = .ok (.iconst 5, 1) := by decide +kernel
theorem dL_same_17 : decode cL_same 17 = .ok (.if_icmp .ge 601, 3) := by decide +kernel
theorem dL_same_20 : decode cL_same 20 = .ok (.bipush 10, 2) := by decide +kernel
theorem dL_same_22 : decode cL_same 22 = .ok (.iload 9, 2) := by decide +kernel
theorem dL_same_24 : decode cL_same 24 = .ok (.imul, 1) := by decide +kernel
theorem dL_same_25 : decode cL_same 25 = .ok (.istore 10, 2) := by decide +kernel
theorem dL_same_27 : decode cL_same 27 = .ok (.iconst 0, 1) := by decide +kernel
theorem dL_same_28 : decode cL_same 28 = .ok (.istore 11, 2) := by decide +kernel
theorem dL_same_30 : decode cL_same 30 = .ok (.iconst 0, 1) := by decide +kernel
theorem dL_same_31 : decode cL_same 31 = .ok (.istore 12, 2) := by decide +kernel
theorem dL_same_33 : decode cL_same 33 = .ok (.iconst 0, 1) := by decide +kernel
theorem dL_same_34 : decode cL_same 34 = .ok (.istore 13, 2) := by decide +kernel
theorem dL_same_36 : decode cL_same 36 = .ok (.iload 13, 2) := by decide +kernel
theorem dL_same_38 : decode cL_same 38 = .ok (.aload_n 2, 1) := by decide +kernel
theorem dL_same_39 : decode cL_same 39 = .ok (.bipush 7, 2) := by decide +kernel
theorem dL_same_41 : decode cL_same 41 = .ok (.iaload, 1) := by decide +kernel
theorem dL_same_42 : decode cL_same 42 = .ok (.if_icmp .ge 71, 3) := by decide +kernel
theorem dL_same_45 : decode cL_same 45 = .ok (.iload 11, 2) := by decide +kernel
theorem dL_same_47 : decode cL_same 47 = .ok (.aload 5, 2) := by decide +kernel
theorem dL_same_49 : decode cL_same 49 = .ok (.iconst 3, 1) := by decide +kernel
theorem dL_same_50 : decode cL_same 50 = .ok (.iload 13, 2) := by decide +kernel
theorem dL_same_52 : decode cL_same 52 = .ok (.imul, 1) := by decide +kernel
theorem dL_same_53 : decode cL_same 53 = .ok (.iconst 1, 1) := by decide +kernel
theorem dL_same_54 : decode cL_same 54 = .ok (.iadd, 1) := by decide +kernel
theorem dL_same_55 : decode cL_same 55 = .ok (.iaload, 1) := by decide +kernel
theorem dL_same_56 : decode cL_same 56 = .ok (.iload 9, 2) := by decide +kernel
theorem dL_same_58 : decode cL_same 58 = .ok (.if_icmp .ne 15, 3) := by decide +kernel
theorem dL_same_61 : decode cL_same 61 = .ok (.aload 5, 2) := by decide +kernel
theorem dL_same_63 : decode cL_same 63 = .ok (.iconst 3, 1) := by decide +kernel
theorem dL_same_64 : decode cL_same 64 = .ok (.iload 13, 2) := by decide +kernel
theorem dL_same_66 : decode cL_same 66 = .ok (.imul, 1) := by decide +kernel
theorem dL_same_67 : decode cL_same 67 = .ok (.iconst 2, 1) := by decide +kernel
theorem dL_same_68 : decode cL_same 68 = .ok (.iadd, 1) := by decide +kernel
theorem dL_same_69 : decode cL_same 69 = .ok (.iaload, 1) := by decide +kernel
theorem dL_same_70 : decode cL_same 70 = .ok (.goto 4, 3) := by decide +kernel
theorem dL_same_73 : decode cL_same 73 = .ok (.iconst 0, 1) := by decide +kernel
theorem dL_same_74 : decode cL_same 74 = .ok (.iadd, 1) := by decide +kernel
theorem dL_same_75 : decode cL_same 75 = .ok (.istore 11, 2) := by decide +kernel
theorem dL_same_77 : decode cL_same 77 = .ok (.iload 12, 2) := by decide +kernel
theorem dL_same_79 : decode cL_same 79 = .ok (.aload 5, 2) := by decide +kernel
theorem dL_same_81 : decode cL_same 81 = .ok (.iconst 3, 1) := by decide +kernel
theorem dL_same_82 : decode cL_same 82 = .ok (.iload 13, 2) := by decide +kernel
theorem dL_same_84 : decode cL_same 84 = .ok (.imul, 1) := by decide +kernel
theorem dL_same_85 : decode cL_same 85 = .ok (.iaload, 1) := by decide +kernel
theorem dL_same_86 : decode cL_same 86 = .ok (.iload 9, 2) := by decide +kernel
theorem dL_same_88 : decode cL_same 88 = .ok (.if_icmp .ne 15, 3) := by decide +kernel
theorem dL_same_91 : decode cL_same 91 = .ok (.aload 5, 2) := by decide +kernel
theorem dL_same_93 : decode cL_same 93 = .ok (.iconst 3, 1) := by decide +kernel
theorem dL_same_94 : decode cL_same 94 = .ok (.iload 13, 2) := by decide +kernel
theorem dL_same_96 : decode cL_same 96 = .ok (.imul, 1) := by decide +kernel
theorem dL_same_97 : decode cL_same 97 = .ok (.iconst 2, 1) := by decide +kernel
theorem dL_same_98 : decode cL_same 98 = .ok (.iadd, 1) := by decide +kernel
theorem dL_same_99 : decode cL_same 99 = .ok (.iaload, 1) := by decide +kernel
theorem dL_same_100 : decode cL_same 100 = .ok (.goto 4, 3) := by decide +kernel
theorem dL_same_103 : decode cL_same 103 = .ok (.iconst 0, 1) := by decide +kernel
theorem dL_same_104 : decode cL_same 104 = .ok (.iadd, 1) := by decide +kernel
theorem dL_same_105 : decode cL_same 105 = .ok (.istore 12, 2) := by decide +kernel
theorem dL_same_107 : decode cL_same 107 = .ok (.iinc 13 1, 3) := by decide +kernel
theorem dL_same_110 : decode cL_same 110 = .ok (.goto (-74), 3) := by decide +kernel
theorem dL_same_113 : decode cL_same 113 = .ok (.aload_n 0, 1) := by decide +kernel
theorem dL_same_114 : decode cL_same 114 = .ok (.iload 9, 2) := by decide +kernel
theorem dL_same_116 : decode cL_same 116 = .ok (.iconst 2, 1) := by decide +kernel
theorem dL_same_117 : decode cL_same 117 = .ok (.invokevirtual 38, 3) := by decide +kernel
theorem dL_same_120 : decode cL_same 120 = .ok (.aload_n 3, 1) := by decide +kernel
theorem dL_same_121 : decode cL_same 121 = .ok (.iload 10, 2) := by decide +kernel
theorem dL_same_123 : decode cL_same 123 = .ok (.iconst 2, 1) := by decide +kernel
theorem dL_same_124 : decode cL_same 124 = .ok (.iadd, 1) := by decide +kernel
theorem dL_same_125 : decode cL_same 125 = .ok (.iaload, 1) := by decide +kernel
theorem dL_same_126 : decode cL_same 126 = .ok (.if_icmp .ne 128, 3) := by decide +kernel
theorem dL_same_129 : decode cL_same 129 = .ok (.aload_n 0, 1) := by decide +kernel
theorem dL_same_130 : decode cL_same 130 = .ok (.iload 9, 2) := by decide +kernel
theorem dL_same_132 : decode cL_same 132 = .ok (.iconst 3, 1) := by decide +kernel
theorem dL_same_133 : decode cL_same 133 = .ok (.invokevirtual 38, 3) := by decide +kernel
theorem dL_same_136 : decode cL_same 136 = .ok (.aload_n 3, 1) := by decide +kernel
theorem dL_same_137 : decode cL_same 137 = .ok (.iload 10, 2) := by decide +kernel
theorem dL_same_139 : decode cL_same 139 = .ok (.iconst 3, 1) := by decide +kernel
theorem dL_same_140 : decode cL_same 140 = .ok (.iadd, 1) := by decide +kernel
theorem dL_same_141 : decode cL_same 141 = .ok (.iaload, 1) := by decide +kernel
theorem dL_same_142 : decode cL_same 142 = .ok (.ifCond .ge 8, 3) := by decide +kernel
theorem dL_same_145 : decode cL_same 145 = .ok (.ldc 44, 2) := by decide +kernel
theorem dL_same_147 : decode cL_same 147 = .ok (.goto 9, 3) := by decide +kernel
theorem dL_same_150 : decode cL_same 150 = .ok (.aload_n 3, 1) := by decide +kernel
theorem dL_same_151 : decode cL_same 151 = .ok (.iload 10, 2) := by decide +kernel
theorem dL_same_153 : decode cL_same 153 = .ok (.iconst 3, 1) := by decide +kernel
theorem dL_same_154 : decode cL_same 154 = .ok (.iadd, 1) := by decide +kernel
theorem dL_same_155 : decode cL_same 155 = .ok (.iaload, 1) := by decide +kernel
theorem dL_same_156 : decode cL_same 156 = .ok (.if_icmp .ne 98, 3) := by decide +kernel
theorem dL_same_159 : decode cL_same 159 = .ok (.aload_n 0, 1) := by decide +kernel
theorem dL_same_160 : decode cL_same 160 = .ok (.iload 9, 2) := by decide +kernel
theorem dL_same_162 : decode cL_same 162 = .ok (.iconst 5, 1) := by decide +kernel
theorem dL_same_163 : decode cL_same 163 = .ok (.invokevirtual 38, 3) := by decide +kernel
theorem dL_same_166 : decode cL_same 166 = .ok (.aload_n 3, 1) := by decide +kernel
theorem dL_same_167 : decode cL_same 167 = .ok (.iload 10, 2) := by decide +kernel
theorem dL_same_169 : decode cL_same 169 = .ok (.iconst 4, 1) := by decide +kernel
theorem dL_same_170 : decode cL_same 170 = .ok (.iadd, 1) := by decide +kernel
theorem dL_same_171 : decode cL_same 171 = .ok (.iaload, 1) := by decide +kernel
theorem dL_same_172 : decode cL_same 172 = .ok (.if_icmp .ne 82, 3) := by decide +kernel
theorem dL_same_175 : decode cL_same 175 = .ok (.aload_n 0, 1) := by decide +kernel
theorem dL_same_176 : decode cL_same 176 = .ok (.iload 9, 2) := by decide +kernel
theorem dL_same_178 : decode cL_same 178 = .ok (.bipush 6, 2) := by decide +kernel
theorem dL_same_180 : decode cL_same 180 = .ok (.invokevirtual 38, 3) := by decide +kernel
theorem dL_same_183 : decode cL_same 183 = .ok (.aload_n 3, 1) := by decide +kernel
theorem dL_same_184 : decode cL_same 184 = .ok (.iload 10, 2) := by decide +kernel
theorem dL_same_186 : decode cL_same 186 = .ok (.iconst 5, 1) := by decide +kernel
theorem dL_same_187 : decode cL_same 187 = .ok (.iadd, 1) := by decide +kernel
theorem dL_same_188 : decode cL_same 188 = .ok (.iaload, 1) := by decide +kernel
theorem dL_same_189 : decode cL_same 189 = .ok (.if_icmp .ne 65, 3) := by decide +kernel
theorem dL_same_192 : decode cL_same 192 = .ok (.aload_n 0, 1) := by decide +kernel
theorem dL_same_193 : decode cL_same 193 = .ok (.iload 9, 2) := by decide +kernel
theorem dL_same_195 : decode cL_same 195 = .ok (.bipush 7, 2) := by decide +kernel
theorem dL_same_197 : decode cL_same 197 = .ok (.invokevirtual 38, 3) := by decide +kernel
theorem dL_same_200 : decode cL_same 200 = .ok (.aload_n 3, 1) := by decide +kernel
theorem dL_same_201 : decode cL_same 201 = .ok (.iload 10, 2) := by decide +kernel
theorem dL_same_203 : decode cL_same 203 = .ok (.bipush 6, 2) := by decide +kernel
theorem dL_same_205 : decode cL_same 205 = .ok (.iadd, 1) := by decide +kernel
theorem dL_same_206 : decode cL_same 206 = .ok (.iaload, 1) := by decide +kernel
theorem dL_same_207 : decode cL_same 207 = .ok (.if_icmp .ne 47, 3) := by decide +kernel
theorem dL_same_210 : decode cL_same 210 = .ok (.aload_n 0, 1) := by decide +kernel
theorem dL_same_211 : decode cL_same 211 = .ok (.iload 9, 2) := by decide +kernel
theorem dL_same_213 : decode cL_same 213 = .ok (.bipush 8, 2) := by decide +kernel
theorem dL_same_215 : decode cL_same 215 = .ok (.invokevirtual 38, 3) := by decide +kernel
theorem dL_same_218 : decode cL_same 218 = .ok (.aload_n 3, 1) := by decide +kernel
theorem dL_same_219 : decode cL_same 219 = .ok (.iload 10, 2) := by decide +kernel
theorem dL_same_221 : decode cL_same 221 = .ok (.bipush 7, 2) := by decide +kernel
theorem dL_same_223 : decode cL_same 223 = .ok (.iadd, 1) := by decide +kernel
theorem dL_same_224 : decode cL_same 224 = .ok (.iaload, 1) := by decide +kernel
theorem dL_same_225 : decode cL_same 225 = .ok (.if_icmp .ne 29, 3) := by decide +kernel
theorem dL_same_228 : decode cL_same 228 = .ok (.aload_n 0, 1) := by decide +kernel
theorem dL_same_229 : decode cL_same 229 = .ok (.iload 9, 2) := by decide +kernel
theorem dL_same_231 : decode cL_same 231 = .ok (.bipush 9, 2) := by decide +kernel
theorem dL_same_233 : decode cL_same 233 = .ok (.invokevirtual 38, 3) := by decide +kernel
theorem dL_same_236 : decode cL_same 236 = .ok (.iload 11, 2) := by decide +kernel
theorem dL_same_238 : decode cL_same 238 = .ok (.if_icmp .ne 16, 3) := by decide +kernel
theorem dL_same_241 : decode cL_same 241 = .ok (.aload_n 0, 1) := by decide +kernel
theorem dL_same_242 : decode cL_same 242 = .ok (.iload 9, 2) := by decide +kernel
theorem dL_same_244 : decode cL_same 244 = .ok (.bipush 10, 2) := by decide +kernel
theorem dL_same_246 : decode cL_same 246 = .ok (.invokevirtual 38, 3) := by decide +kernel
theorem dL_same_249 : decode cL_same 249 = .ok (.iload 12, 2) := by decide +kernel
theorem dL_same_251 : decode cL_same 251 = .ok (.if_icmp .eq 5, 3) := by decide +kernel
theorem dL_same_254 : decode cL_same 254 = .ok (.iconst 0, 1) := by decide +kernel
theorem dL_same_255 : decode cL_same 255 = .ok (.ireturn, 1) := by decide +kernel
theorem dL_same_256 : decode cL_same 256 = .ok (.aload_n 0, 1) := by decide +kernel
theorem dL_same_257 : decode cL_same 257 = .ok (.iload 9, 2) := by decide +kernel
theorem dL_same_259 : decode cL_same 259 = .ok (.iload_n 1, 1) := by decide +kernel
theorem dL_same_260 : decode cL_same 260 = .ok (.invokevirtual 45, 3) := by decide +kernel
theorem dL_same_263 : decode cL_same 263 = .ok (.iload 9, 2) := by decide +kernel
theorem dL_same_265 : decode cL_same 265 = .ok (.iload_n 1, 1) := by decide +kernel
theorem dL_same_266 : decode cL_same 266 = .ok (.aload_n 2, 1) := by decide +kernel
theorem dL_same_267 : decode cL_same 267 = .ok (.aload_n 3, 1) := by decide +kernel
theorem dL_same_268 : decode cL_same 268 = .ok (.aload 4, 2) := by decide +kernel
theorem dL_same_270 : decode cL_same 270 = .ok (.invokestatic 27, 3) := by decide +kernel
theorem dL_same_273 : decode cL_same 273 = .ok (.if_icmp .ne 23, 3) := by decide +kernel
theorem dL_same_276 : decode cL_same 276 = .ok (.aload_n 0, 1) := by decide +kernel
theorem dL_same_277 : decode cL_same 277 = .ok (.iload 9, 2) := by decide +kernel
theorem dL_same_279 : decode cL_same 279 = .ok (.iload_n 1, 1) := by decide +kernel
theorem dL_same_280 : decode cL_same 280 = .ok (.invokevirtual 47, 3) := by decide +kernel
theorem dL_same_283 : decode cL_same 283 = .ok (.iload 9, 2) := by decide +kernel
theorem dL_same_285 : decode cL_same 285 = .ok (.iload_n 1, 1) := by decide +kernel
theorem dL_same_286 : decode cL_same 286 = .ok (.aload_n 2, 1) := by decide +kernel
theorem dL_same_287 : decode cL_same 287 = .ok (.aload_n 3, 1) := by decide +kernel
theorem dL_same_288 : decode cL_same 288 = .ok (.aload 4, 2) := by decide +kernel
theorem dL_same_290 : decode cL_same 290 = .ok (.invokestatic 30, 3) := by decide +kernel
theorem dL_same_293 : decode cL_same 293 = .ok (.if_icmp .eq 5, 3) := by decide +kernel
theorem dL_same_296 : decode cL_same 296 = .ok (.iconst 0, 1) := by decide +kernel
theorem dL_same_297 : decode cL_same 297 = .ok (.ireturn, 1) := by decide +kernel
theorem dL_same_298 : decode cL_same 298 = .ok (.iconst 0, 1) := by decide +kernel
theorem dL_same_299 : decode cL_same 299 = .ok (.istore 13, 2) := by decide +kernel
theorem dL_same_301 : decode cL_same 301 = .ok (.iload 13, 2) := by decide +kernel
theorem dL_same_303 : decode cL_same 303 = .ok (.bipush 8, 2) := by decide +kernel
theorem dL_same_305 : decode cL_same 305 = .ok (.if_icmp .ge 60, 3) := by decide +kernel
theorem dL_same_308 : decode cL_same 308 = .ok (.aload_n 0, 1) := by decide +kernel
theorem dL_same_309 : decode cL_same 309 = .ok (.iload 9, 2) := by decide +kernel
theorem dL_same_311 : decode cL_same 311 = .ok (.iload 13, 2) := by decide +kernel
theorem dL_same_313 : decode cL_same 313 = .ok (.invokevirtual 49, 3) := by decide +kernel
theorem dL_same_316 : decode cL_same 316 = .ok (.iload 9, 2) := by decide +kernel
theorem dL_same_318 : decode cL_same 318 = .ok (.aload_n 3, 1) := by decide +kernel
theorem dL_same_319 : decode cL_same 319 = .ok (.invokestatic 24, 3) := by decide +kernel
theorem dL_same_322 : decode cL_same 322 = .ok (.ifCond .eq 30, 3) := by decide +kernel
theorem dL_same_325 : decode cL_same 325 = .ok (.iload 13, 2) := by decide +kernel
theorem dL_same_327 : decode cL_same 327 = .ok (.iconst 1, 1) := by decide +kernel
theorem dL_same_328 : decode cL_same 328 = .ok (.aload_n 3, 1) := by decide +kernel
theorem dL_same_329 : decode cL_same 329 = .ok (.iload 10, 2) := by decide +kernel
theorem dL_same_331 : decode cL_same 331 = .ok (.iconst 1, 1) := by decide +kernel
theorem dL_same_332 : decode cL_same 332 = .ok (.iadd, 1) := by decide +kernel
theorem dL_same_333 : decode cL_same 333 = .ok (.iaload, 1) := by decide +kernel
theorem dL_same_334 : decode cL_same 334 = .ok (.ishl, 1) := by decide +kernel
theorem dL_same_335 : decode cL_same 335 = .ok (.if_icmp .ge 17, 3) := by decide +kernel
theorem dL_same_338 : decode cL_same 338 = .ok (.aload 4, 2) := by decide +kernel
theorem dL_same_340 : decode cL_same 340 = .ok (.bipush 8, 2) := by decide +kernel
theorem dL_same_342 : decode cL_same 342 = .ok (.iload 9, 2) := by decide +kernel
theorem dL_same_344 : decode cL_same 344 = .ok (.imul, 1) := by decide +kernel
theorem dL_same_345 : decode cL_same 345 = .ok (.iload 13, 2) := by decide +kernel
theorem dL_same_347 : decode cL_same 347 = .ok (.iadd, 1) := by decide +kernel
theorem dL_same_348 : decode cL_same 348 = .ok (.iaload, 1) := by decide +kernel
theorem dL_same_349 : decode cL_same 349 = .ok (.goto 5, 3) := by decide +kernel
theorem dL_same_352 : decode cL_same 352 = .ok (.ldc 44, 2) := by decide +kernel
theorem dL_same_354 : decode cL_same 354 = .ok (.if_icmp .eq 5, 3) := by decide +kernel
theorem dL_same_357 : decode cL_same 357 = .ok (.iconst 0, 1) := by decide +kernel
theorem dL_same_358 : decode cL_same 358 = .ok (.ireturn, 1) := by decide +kernel
theorem dL_same_359 : decode cL_same 359 = .ok (.iinc 13 1, 3) := by decide +kernel
theorem dL_same_362 : decode cL_same 362 = .ok (.goto (-61), 3) := by decide +kernel
theorem dL_same_365 : decode cL_same 365 = .ok (.iload 6, 2) := by decide +kernel
theorem dL_same_367 : decode cL_same 367 = .ok (.aload_n 3, 1) := by decide +kernel
theorem dL_same_368 : decode cL_same 368 = .ok (.iload 10, 2) := by decide +kernel
theorem dL_same_370 : decode cL_same 370 = .ok (.iconst 2, 1) := by decide +kernel
theorem dL_same_371 : decode cL_same 371 = .ok (.iadd, 1) := by decide +kernel
theorem dL_same_372 : decode cL_same 372 = .ok (.iaload, 1) := by decide +kernel
theorem dL_same_373 : decode cL_same 373 = .ok (.iadd, 1) := by decide +kernel
theorem dL_same_374 : decode cL_same 374 = .ok (.istore 6, 2) := by decide +kernel
theorem dL_same_376 : decode cL_same 376 = .ok (.iload 7, 2) := by decide +kernel
theorem dL_same_378 : decode cL_same 378 = .ok (.iload 9, 2) := by decide +kernel
theorem dL_same_380 : decode cL_same 380 = .ok (.iload_n 1, 1) := by decide +kernel
theorem dL_same_381 : decode cL_same 381 = .ok (.aload_n 2, 1) := by decide +kernel
theorem dL_same_382 : decode cL_same 382 = .ok (.aload_n 3, 1) := by decide +kernel
theorem dL_same_383 : decode cL_same 383 = .ok (.aload 4, 2) := by decide +kernel
theorem dL_same_385 : decode cL_same 385 = .ok (.invokestatic 30, 3) := by decide +kernel
theorem dL_same_388 : decode cL_same 388 = .ok (.iadd, 1) := by decide +kernel
theorem dL_same_389 : decode cL_same 389 = .ok (.istore 7, 2) := by decide +kernel
theorem dL_same_391 : decode cL_same 391 = .ok (.iload 8, 2) := by decide +kernel
theorem dL_same_393 : decode cL_same 393 = .ok (.iload 9, 2) := by decide +kernel
theorem dL_same_395 : decode cL_same 395 = .ok (.iload_n 1, 1) := by decide +kernel
theorem dL_same_396 : decode cL_same 396 = .ok (.aload_n 2, 1) := by decide +kernel
theorem dL_same_397 : decode cL_same 397 = .ok (.aload_n 3, 1) := by decide +kernel
theorem dL_same_398 : decode cL_same 398 = .ok (.aload 4, 2) := by decide +kernel
theorem dL_same_400 : decode cL_same 400 = .ok (.invokestatic 27, 3) := by decide +kernel
theorem dL_same_403 : decode cL_same 403 = .ok (.iconst 1, 1) := by decide +kernel
theorem dL_same_404 : decode cL_same 404 = .ok (.if_icmp .ne 16, 3) := by decide +kernel
theorem dL_same_407 : decode cL_same 407 = .ok (.iload 9, 2) := by decide +kernel
theorem dL_same_409 : decode cL_same 409 = .ok (.iload_n 1, 1) := by decide +kernel
theorem dL_same_410 : decode cL_same 410 = .ok (.aload_n 2, 1) := by decide +kernel
theorem dL_same_411 : decode cL_same 411 = .ok (.aload_n 3, 1) := by decide +kernel
theorem dL_same_412 : decode cL_same 412 = .ok (.aload 4, 2) := by decide +kernel
theorem dL_same_414 : decode cL_same 414 = .ok (.invokestatic 30, 3) := by decide +kernel
theorem dL_same_417 : decode cL_same 417 = .ok (.goto 4, 3) := by decide +kernel
theorem dL_same_420 : decode cL_same 420 = .ok (.iconst 0, 1) := by decide +kernel
theorem dL_same_421 : decode cL_same 421 = .ok (.iadd, 1) := by decide +kernel
theorem dL_same_422 : decode cL_same 422 = .ok (.istore 8, 2) := by decide +kernel
theorem dL_same_424 : decode cL_same 424 = .ok (.iconst 0, 1) := by decide +kernel
theorem dL_same_425 : decode cL_same 425 = .ok (.istore 13, 2) := by decide +kernel
theorem dL_same_427 : decode cL_same 427 = .ok (.iconst 0, 1) := by decide +kernel
theorem dL_same_428 : decode cL_same 428 = .ok (.istore 14, 2) := by decide +kernel
theorem dL_same_430 : decode cL_same 430 = .ok (.iload 14, 2) := by decide +kernel
theorem dL_same_432 : decode cL_same 432 = .ok (.iconst 5, 1) := by decide +kernel
theorem dL_same_433 : decode cL_same 433 = .ok (.if_icmp .ge 62, 3) := by decide +kernel
theorem dL_same_436 : decode cL_same 436 = .ok (.iload 13, 2) := by decide +kernel
theorem dL_same_438 : decode cL_same 438 = .ok (.aload_n 3, 1) := by decide +kernel
theorem dL_same_439 : decode cL_same 439 = .ok (.bipush 10, 2) := by decide +kernel
theorem dL_same_441 : decode cL_same 441 = .ok (.iload 14, 2) := by decide +kernel
theorem dL_same_443 : decode cL_same 443 = .ok (.imul, 1) := by decide +kernel
theorem dL_same_444 : decode cL_same 444 = .ok (.iconst 2, 1) := by decide +kernel
theorem dL_same_445 : decode cL_same 445 = .ok (.iadd, 1) := by decide +kernel
theorem dL_same_446 : decode cL_same 446 = .ok (.iaload, 1) := by decide +kernel
theorem dL_same_447 : decode cL_same 447 = .ok (.aload_n 3, 1) := by decide +kernel
theorem dL_same_448 : decode cL_same 448 = .ok (.iload 10, 2) := by decide +kernel
theorem dL_same_450 : decode cL_same 450 = .ok (.iconst 2, 1) := by decide +kernel
theorem dL_same_451 : decode cL_same 451 = .ok (.iadd, 1) := by decide +kernel
theorem dL_same_452 : decode cL_same 452 = .ok (.iaload, 1) := by decide +kernel
theorem dL_same_453 : decode cL_same 453 = .ok (.if_icmp .gt 28, 3) := by decide +kernel
theorem dL_same_456 : decode cL_same 456 = .ok (.aload_n 3, 1) := by decide +kernel
theorem dL_same_457 : decode cL_same 457 = .ok (.bipush 10, 2) := by decide +kernel
theorem dL_same_459 : decode cL_same 459 = .ok (.iload 14, 2) := by decide +kernel
theorem dL_same_461 : decode cL_same 461 = .ok (.imul, 1) := by decide +kernel
theorem dL_same_462 : decode cL_same 462 = .ok (.iconst 2, 1) := by decide +kernel
theorem dL_same_463 : decode cL_same 463 = .ok (.iadd, 1) := by decide +kernel
theorem dL_same_464 : decode cL_same 464 = .ok (.iaload, 1) := by decide +kernel
theorem dL_same_465 : decode cL_same 465 = .ok (.aload_n 3, 1) := by decide +kernel
theorem dL_same_466 : decode cL_same 466 = .ok (.iload 10, 2) := by decide +kernel
theorem dL_same_468 : decode cL_same 468 = .ok (.iconst 2, 1) := by decide +kernel
theorem dL_same_469 : decode cL_same 469 = .ok (.iadd, 1) := by decide +kernel
theorem dL_same_470 : decode cL_same 470 = .ok (.iaload, 1) := by decide +kernel
theorem dL_same_471 : decode cL_same 471 = .ok (.if_icmp .ne 14, 3) := by decide +kernel
theorem dL_same_474 : decode cL_same 474 = .ok (.iload 14, 2) := by decide +kernel
theorem dL_same_476 : decode cL_same 476 = .ok (.iload 9, 2) := by decide +kernel
theorem dL_same_478 : decode cL_same 478 = .ok (.if_icmp .ge 7, 3) := by decide +kernel
theorem dL_same_481 : decode cL_same 481 = .ok (.iconst 1, 1) := by decide +kernel
theorem dL_same_482 : decode cL_same 482 = .ok (.goto 4, 3) := by decide +kernel
theorem dL_same_485 : decode cL_same 485 = .ok (.iconst 0, 1) := by decide +kernel
theorem dL_same_486 : decode cL_same 486 = .ok (.iadd, 1) := by decide +kernel
theorem dL_same_487 : decode cL_same 487 = .ok (.istore 13, 2) := by decide +kernel
theorem dL_same_489 : decode cL_same 489 = .ok (.iinc 14 1, 3) := by decide +kernel
theorem dL_same_492 : decode cL_same 492 = .ok (.goto (-62), 3) := by decide +kernel
theorem dL_same_495 : decode cL_same 495 = .ok (.aload_n 0, 1) := by decide +kernel
theorem dL_same_496 : decode cL_same 496 = .ok (.iload 13, 2) := by decide +kernel
theorem dL_same_498 : decode cL_same 498 = .ok (.invokevirtual 52, 3) := by decide +kernel
theorem dL_same_501 : decode cL_same 501 = .ok (.iload 9, 2) := by decide +kernel
theorem dL_same_503 : decode cL_same 503 = .ok (.if_icmp .ne 107, 3) := by decide +kernel
theorem dL_same_506 : decode cL_same 506 = .ok (.aload_n 0, 1) := by decide +kernel
theorem dL_same_507 : decode cL_same 507 = .ok (.iload 9, 2) := by decide +kernel
theorem dL_same_509 : decode cL_same 509 = .ok (.invokevirtual 56, 3) := by decide +kernel
theorem dL_same_512 : decode cL_same 512 = .ok (.ldc 44, 2) := by decide +kernel
theorem dL_same_514 : decode cL_same 514 = .ok (.if_icmp .ne 7, 3) := by decide +kernel
theorem dL_same_517 : decode cL_same 517 = .ok (.iconst 1, 1) := by decide +kernel
theorem dL_same_518 : decode cL_same 518 = .ok (.goto 4, 3) := by decide +kernel
theorem dL_same_521 : decode cL_same 521 = .ok (.iconst 0, 1) := by decide +kernel
theorem dL_same_522 : decode cL_same 522 = .ok (.aload_n 3, 1) := by decide +kernel
theorem dL_same_523 : decode cL_same 523 = .ok (.iload 10, 2) := by decide +kernel
theorem dL_same_525 : decode cL_same 525 = .ok (.iconst 4, 1) := by decide +kernel
theorem dL_same_526 : decode cL_same 526 = .ok (.iadd, 1) := by decide +kernel
theorem dL_same_527 : decode cL_same 527 = .ok (.iaload, 1) := by decide +kernel
theorem dL_same_528 : decode cL_same 528 = .ok (.aload_n 3, 1) := by decide +kernel
theorem dL_same_529 : decode cL_same 529 = .ok (.iload 10, 2) := by decide +kernel
theorem dL_same_531 : decode cL_same 531 = .ok (.iconst 5, 1) := by decide +kernel
theorem dL_same_532 : decode cL_same 532 = .ok (.iadd, 1) := by decide +kernel
theorem dL_same_533 : decode cL_same 533 = .ok (.iaload, 1) := by decide +kernel
theorem dL_same_534 : decode cL_same 534 = .ok (.iadd, 1) := by decide +kernel
theorem dL_same_535 : decode cL_same 535 = .ok (.ifCond .ne 7, 3) := by decide +kernel
theorem dL_same_538 : decode cL_same 538 = .ok (.iconst 1, 1) := by decide +kernel
theorem dL_same_539 : decode cL_same 539 = .ok (.goto 4, 3) := by decide +kernel
theorem dL_same_542 : decode cL_same 542 = .ok (.iconst 0, 1) := by decide +kernel
theorem dL_same_543 : decode cL_same 543 = .ok (.if_icmp .ne 67, 3) := by decide +kernel
theorem dL_same_546 : decode cL_same 546 = .ok (.aload_n 3, 1) := by decide +kernel
theorem dL_same_547 : decode cL_same 547 = .ok (.iload 10, 2) := by decide +kernel
theorem dL_same_549 : decode cL_same 549 = .ok (.iconst 5, 1) := by decide +kernel
theorem dL_same_550 : decode cL_same 550 = .ok (.iadd, 1) := by decide +kernel
theorem dL_same_551 : decode cL_same 551 = .ok (.iaload, 1) := by decide +kernel
theorem dL_same_552 : decode cL_same 552 = .ok (.ifCond .ne 23, 3) := by decide +kernel
theorem dL_same_555 : decode cL_same 555 = .ok (.aload_n 3, 1) := by decide +kernel
theorem dL_same_556 : decode cL_same 556 = .ok (.iload 10, 2) := by decide +kernel
theorem dL_same_558 : decode cL_same 558 = .ok (.iconst 4, 1) := by decide +kernel
theorem dL_same_559 : decode cL_same 559 = .ok (.iadd, 1) := by decide +kernel
theorem dL_same_560 : decode cL_same 560 = .ok (.iaload, 1) := by decide +kernel
theorem dL_same_561 : decode cL_same 561 = .ok (.ifCond .le 14, 3) := by decide +kernel
theorem dL_same_564 : decode cL_same 564 = .ok (.aload_n 0, 1) := by decide +kernel
theorem dL_same_565 : decode cL_same 565 = .ok (.iload 9, 2) := by decide +kernel
theorem dL_same_567 : decode cL_same 567 = .ok (.invokevirtual 56, 3) := by decide +kernel
theorem dL_same_570 : decode cL_same 570 = .ok (.ldc 59, 2) := by decide +kernel
theorem dL_same_572 : decode cL_same 572 = .ok (.if_icmp .ne 38, 3) := by decide +kernel
theorem dL_same_575 : decode cL_same 575 = .ok (.aload_n 3, 1) := by decide +kernel
theorem dL_same_576 : decode cL_same 576 = .ok (.iload 10, 2) := by decide +kernel
theorem dL_same_578 : decode cL_same 578 = .ok (.iconst 4, 1) := by decide +kernel
theorem dL_same_579 : decode cL_same 579 = .ok (.iadd, 1) := by decide +kernel
theorem dL_same_580 : decode cL_same 580 = .ok (.iaload, 1) := by decide +kernel
theorem dL_same_581 : decode cL_same 581 = .ok (.aload_n 3, 1) := by decide +kernel
theorem dL_same_582 : decode cL_same 582 = .ok (.iload 10, 2) := by decide +kernel
theorem dL_same_584 : decode cL_same 584 = .ok (.iconst 5, 1) := by decide +kernel
theorem dL_same_585 : decode cL_same 585 = .ok (.iadd, 1) := by decide +kernel
theorem dL_same_586 : decode cL_same 586 = .ok (.iaload, 1) := by decide +kernel
theorem dL_same_587 : decode cL_same 587 = .ok (.if_icmp .ne 25, 3) := by decide +kernel
theorem dL_same_590 : decode cL_same 590 = .ok (.aload_n 3, 1) := by decide +kernel
theorem dL_same_591 : decode cL_same 591 = .ok (.iload 10, 2) := by decide +kernel
theorem dL_same_593 : decode cL_same 593 = .ok (.iconst 4, 1) := by decide +kernel
theorem dL_same_594 : decode cL_same 594 = .ok (.iadd, 1) := by decide +kernel
theorem dL_same_595 : decode cL_same 595 = .ok (.iaload, 1) := by decide +kernel
theorem dL_same_596 : decode cL_same 596 = .ok (.ifCond .le 16, 3) := by decide +kernel
theorem dL_same_599 : decode cL_same 599 = .ok (.aload_n 0, 1) := by decide +kernel
theorem dL_same_600 : decode cL_same 600 = .ok (.iload 9, 2) := by decide +kernel
theorem dL_same_602 : decode cL_same 602 = .ok (.invokevirtual 56, 3) := by decide +kernel
theorem dL_same_605 : decode cL_same 605 = .ok (.ldc 60, 2) := by decide +kernel
theorem dL_same_607 : decode cL_same 607 = .ok (.if_icmp .eq 5, 3) := by decide +kernel
theorem dL_same_610 : decode cL_same 610 = .ok (.iconst 0, 1) := by decide +kernel
theorem dL_same_611 : decode cL_same 611 = .ok (.ireturn, 1) := by decide +kernel
theorem dL_same_612 : decode cL_same 612 = .ok (.iinc 9 1, 3) := by decide +kernel
theorem dL_same_615 : decode cL_same 615 = .ok (.goto (-601), 3) := by decide +kernel
theorem dL_same_618 : decode cL_same 618 = .ok (.aload_n 0, 1) := by decide +kernel
theorem dL_same_619 : decode cL_same 619 = .ok (.iload_n 1, 1) := by decide +kernel
theorem dL_same_620 : decode cL_same 620 = .ok (.invokevirtual 61, 3) := by decide +kernel
theorem dL_same_623 : decode cL_same 623 = .ok (.istore 9, 2) := by decide +kernel
theorem dL_same_625 : decode cL_same 625 = .ok (.iload 7, 2) := by decide +kernel
theorem dL_same_627 : decode cL_same 627 = .ok (.ifCond .ne 13, 3) := by decide +kernel
theorem dL_same_630 : decode cL_same 630 = .ok (.iload 9, 2) := by decide +kernel
theorem dL_same_632 : decode cL_same 632 = .ok (.ldc 44, 2) := by decide +kernel
theorem dL_same_634 : decode cL_same 634 = .ok (.if_icmp .eq 98, 3) := by decide +kernel
theorem dL_same_637 : decode cL_same 637 = .ok (.goto 93, 3) := by decide +kernel
theorem dL_same_640 : decode cL_same 640 = .ok (.iload 8, 2) := by decide +kernel
theorem dL_same_642 : decode cL_same 642 = .ok (.ifCond .ne 11, 3) := by decide +kernel
theorem dL_same_645 : decode cL_same 645 = .ok (.iload 9, 2) := by decide +kernel
theorem dL_same_647 : decode cL_same 647 = .ok (.ifCond .eq 85, 3) := by decide +kernel
theorem dL_same_650 : decode cL_same 650 = .ok (.goto 80, 3) := by decide +kernel
theorem dL_same_653 : decode cL_same 653 = .ok (.iload 8, 2) := by decide +kernel
theorem dL_same_655 : decode cL_same 655 = .ok (.iload 7, 2) := by decide +kernel
theorem dL_same_657 : decode cL_same 657 = .ok (.if_icmp .ne 13, 3) := by decide +kernel
theorem dL_same_660 : decode cL_same 660 = .ok (.iload 9, 2) := by decide +kernel
theorem dL_same_662 : decode cL_same 662 = .ok (.ldc 59, 2) := by decide +kernel
theorem dL_same_664 : decode cL_same 664 = .ok (.if_icmp .eq 68, 3) := by decide +kernel
theorem dL_same_667 : decode cL_same 667 = .ok (.goto 63, 3) := by decide +kernel
theorem dL_same_670 : decode cL_same 670 = .ok (.iconst 2, 1) := by decide +kernel
theorem dL_same_671 : decode cL_same 671 = .ok (.iload 8, 2) := by decide +kernel
theorem dL_same_673 : decode cL_same 673 = .ok (.imul, 1) := by decide +kernel
theorem dL_same_674 : decode cL_same 674 = .ok (.iload 7, 2) := by decide +kernel
theorem dL_same_676 : decode cL_same 676 = .ok (.if_icmp .ne 13, 3) := by decide +kernel
theorem dL_same_679 : decode cL_same 679 = .ok (.iload 9, 2) := by decide +kernel
theorem dL_same_681 : decode cL_same 681 = .ok (.ldc 60, 2) := by decide +kernel
theorem dL_same_683 : decode cL_same 683 = .ok (.if_icmp .eq 49, 3) := by decide +kernel
theorem dL_same_686 : decode cL_same 686 = .ok (.goto 44, 3) := by decide +kernel
theorem dL_same_689 : decode cL_same 689 = .ok (.iload 9, 2) := by decide +kernel
theorem dL_same_691 : decode cL_same 691 = .ok (.ifCond .le 39, 3) := by decide +kernel
theorem dL_same_694 : decode cL_same 694 = .ok (.iload 9, 2) := by decide +kernel
theorem dL_same_696 : decode cL_same 696 = .ok (.ldc 59, 2) := by decide +kernel
theorem dL_same_698 : decode cL_same 698 = .ok (.if_icmp .ge 32, 3) := by decide +kernel
theorem dL_same_701 : decode cL_same 701 = .ok (.iload 9, 2) := by decide +kernel
theorem dL_same_703 : decode cL_same 703 = .ok (.ldc 60, 2) := by decide +kernel
theorem dL_same_705 : decode cL_same 705 = .ok (.if_icmp .ge 7, 3) := by decide +kernel
theorem dL_same_708 : decode cL_same 708 = .ok (.iconst 1, 1) := by decide +kernel
theorem dL_same_709 : decode cL_same 709 = .ok (.goto 4, 3) := by decide +kernel
theorem dL_same_712 : decode cL_same 712 = .ok (.iconst 0, 1) := by decide +kernel
theorem dL_same_713 : decode cL_same 713 = .ok (.iconst 2, 1) := by decide +kernel
theorem dL_same_714 : decode cL_same 714 = .ok (.iload 8, 2) := by decide +kernel
theorem dL_same_716 : decode cL_same 716 = .ok (.imul, 1) := by decide +kernel
theorem dL_same_717 : decode cL_same 717 = .ok (.iload 7, 2) := by decide +kernel
theorem dL_same_719 : decode cL_same 719 = .ok (.if_icmp .ge 7, 3) := by decide +kernel
theorem dL_same_722 : decode cL_same 722 = .ok (.iconst 1, 1) := by decide +kernel
theorem dL_same_723 : decode cL_same 723 = .ok (.goto 4, 3) := by decide +kernel
theorem dL_same_726 : decode cL_same 726 = .ok (.iconst 0, 1) := by decide +kernel
theorem dL_same_727 : decode cL_same 727 = .ok (.if_icmp .eq 5, 3) := by decide +kernel
theorem dL_same_730 : decode cL_same 730 = .ok (.iconst 0, 1) := by decide +kernel
theorem dL_same_731 : decode cL_same 731 = .ok (.ireturn, 1) := by decide +kernel
theorem dL_same_732 : decode cL_same 732 = .ok (.iconst 0, 1) := by decide +kernel
theorem dL_same_733 : decode cL_same 733 = .ok (.istore 10, 2) := by decide +kernel
theorem dL_same_735 : decode cL_same 735 = .ok (.iload 10, 2) := by decide +kernel
theorem dL_same_737 : decode cL_same 737 = .ok (.aload_n 2, 1) := by decide +kernel
theorem dL_same_738 : decode cL_same 738 = .ok (.bipush 7, 2) := by decide +kernel
theorem dL_same_740 : decode cL_same 740 = .ok (.iaload, 1) := by decide +kernel
theorem dL_same_741 : decode cL_same 741 = .ok (.if_icmp .ge 47, 3) := by decide +kernel
theorem dL_same_744 : decode cL_same 744 = .ok (.iconst 0, 1) := by decide +kernel
theorem dL_same_745 : decode cL_same 745 = .ok (.istore 11, 2) := by decide +kernel
theorem dL_same_747 : decode cL_same 747 = .ok (.iload 11, 2) := by decide +kernel
theorem dL_same_749 : decode cL_same 749 = .ok (.iconst 3, 1) := by decide +kernel
theorem dL_same_750 : decode cL_same 750 = .ok (.if_icmp .ge 32, 3) := by decide +kernel
theorem dL_same_753 : decode cL_same 753 = .ok (.aload_n 0, 1) := by decide +kernel
theorem dL_same_754 : decode cL_same 754 = .ok (.iload 10, 2) := by decide +kernel
theorem dL_same_756 : decode cL_same 756 = .ok (.iload 11, 2) := by decide +kernel
theorem dL_same_758 : decode cL_same 758 = .ok (.invokevirtual 64, 3) := by decide +kernel
theorem dL_same_761 : decode cL_same 761 = .ok (.aload 5, 2) := by decide +kernel
theorem dL_same_763 : decode cL_same 763 = .ok (.iconst 3, 1) := by decide +kernel
theorem dL_same_764 : decode cL_same 764 = .ok (.iload 10, 2) := by decide +kernel
theorem dL_same_766 : decode cL_same 766 = .ok (.imul, 1) := by decide +kernel
theorem dL_same_767 : decode cL_same 767 = .ok (.iload 11, 2) := by decide +kernel
theorem dL_same_769 : decode cL_same 769 = .ok (.iadd, 1) := by decide +kernel
theorem dL_same_770 : decode cL_same 770 = .ok (.iaload, 1) := by decide +kernel
theorem dL_same_771 : decode cL_same 771 = .ok (.if_icmp .eq 5, 3) := by decide +kernel
theorem dL_same_774 : decode cL_same 774 = .ok (.iconst 0, 1) := by decide +kernel
theorem dL_same_775 : decode cL_same 775 = .ok (.ireturn, 1) := by decide +kernel
theorem dL_same_776 : decode cL_same 776 = .ok (.iinc 11 1, 3) := by decide +kernel
theorem dL_same_779 : decode cL_same 779 = .ok (.goto (-32), 3) := by decide +kernel
theorem dL_same_782 : decode cL_same 782 = .ok (.iinc 10 1, 3) := by decide +kernel
theorem dL_same_785 : decode cL_same 785 = .ok (.goto (-50), 3) := by decide +kernel
theorem dL_same_788 : decode cL_same 788 = .ok (.aload_n 0, 1) := by decide +kernel
theorem dL_same_789 : decode cL_same 789 = .ok (.iconst 3, 1) := by decide +kernel
theorem dL_same_790 : decode cL_same 790 = .ok (.invokevirtual 67, 3) := by decide +kernel
theorem dL_same_793 : decode cL_same 793 = .ok (.aload_n 2, 1) := by decide +kernel
theorem dL_same_794 : decode cL_same 794 = .ok (.iconst 4, 1) := by decide +kernel
theorem dL_same_795 : decode cL_same 795 = .ok (.iaload, 1) := by decide +kernel
theorem dL_same_796 : decode cL_same 796 = .ok (.if_icmp .ne 66, 3) := by decide +kernel
theorem dL_same_799 : decode cL_same 799 = .ok (.aload_n 0, 1) := by decide +kernel
theorem dL_same_800 : decode cL_same 800 = .ok (.iconst 4, 1) := by decide +kernel
theorem dL_same_801 : decode cL_same 801 = .ok (.invokevirtual 67, 3) := by decide +kernel
theorem dL_same_804 : decode cL_same 804 = .ok (.iload 6, 2) := by decide +kernel
theorem dL_same_806 : decode cL_same 806 = .ok (.if_icmp .ne 56, 3) := by decide +kernel
theorem dL_same_809 : decode cL_same 809 = .ok (.aload_n 0, 1) := by decide +kernel
theorem dL_same_810 : decode cL_same 810 = .ok (.iconst 5, 1) := by decide +kernel
theorem dL_same_811 : decode cL_same 811 = .ok (.invokevirtual 67, 3) := by decide +kernel
theorem dL_same_814 : decode cL_same 814 = .ok (.aload_n 2, 1) := by decide +kernel
theorem dL_same_815 : decode cL_same 815 = .ok (.iconst 3, 1) := by decide +kernel
theorem dL_same_816 : decode cL_same 816 = .ok (.iaload, 1) := by decide +kernel
theorem dL_same_817 : decode cL_same 817 = .ok (.if_icmp .ne 45, 3) := by decide +kernel
theorem dL_same_820 : decode cL_same 820 = .ok (.aload_n 0, 1) := by decide +kernel
theorem dL_same_821 : decode cL_same 821 = .ok (.bipush 6, 2) := by decide +kernel
theorem dL_same_823 : decode cL_same 823 = .ok (.invokevirtual 67, 3) := by decide +kernel
theorem dL_same_826 : decode cL_same 826 = .ok (.aload_n 2, 1) := by decide +kernel
theorem dL_same_827 : decode cL_same 827 = .ok (.iconst 5, 1) := by decide +kernel
theorem dL_same_828 : decode cL_same 828 = .ok (.iaload, 1) := by decide +kernel
theorem dL_same_829 : decode cL_same 829 = .ok (.if_icmp .ne 33, 3) := by decide +kernel
theorem dL_same_832 : decode cL_same 832 = .ok (.aload_n 0, 1) := by decide +kernel
theorem dL_same_833 : decode cL_same 833 = .ok (.bipush 7, 2) := by decide +kernel
theorem dL_same_835 : decode cL_same 835 = .ok (.invokevirtual 67, 3) := by decide +kernel
theorem dL_same_838 : decode cL_same 838 = .ok (.aload_n 2, 1) := by decide +kernel
theorem dL_same_839 : decode cL_same 839 = .ok (.bipush 6, 2) := by decide +kernel
theorem dL_same_841 : decode cL_same 841 = .ok (.iaload, 1) := by decide +kernel
theorem dL_same_842 : decode cL_same 842 = .ok (.if_icmp .ne 20, 3) := by decide +kernel
theorem dL_same_845 : decode cL_same 845 = .ok (.aload_n 0, 1) := by decide +kernel
theorem dL_same_846 : decode cL_same 846 = .ok (.bipush 8, 2) := by decide +kernel
theorem dL_same_848 : decode cL_same 848 = .ok (.invokevirtual 67, 3) := by decide +kernel
theorem dL_same_851 : decode cL_same 851 = .ok (.aload_n 2, 1) := by decide +kernel
theorem dL_same_852 : decode cL_same 852 = .ok (.bipush 7, 2) := by decide +kernel
theorem dL_same_854 : decode cL_same 854 = .ok (.iaload, 1) := by decide +kernel
theorem dL_same_855 : decode cL_same 855 = .ok (.if_icmp .ne 7, 3) := by decide +kernel
theorem dL_same_858 : decode cL_same 858 = .ok (.iconst 1, 1) := by decide +kernel
theorem dL_same_859 : decode cL_same 859 = .ok (.goto 4, 3) := by decide +kernel
theorem dL_same_862 : decode cL_same 862 = .ok (.iconst 0, 1) := by decide +kernel
theorem dL_same_863 : decode cL_same 863 = .ok (.ireturn, 1) := by decide +kernel
theorem dL_copy_0 : decode cL_copy 0 = .ok (.iconst 0, 1) := by decide +kernel
theorem dL_copy_1 : decode cL_copy 1 = .ok (.istore_n 2, 1) := by decide +kernel
theorem dL_copy_2 : decode cL_copy 2 = .ok (.iload_n 2, 1) := by decide +kernel
theorem dL_copy_3 : decode cL_copy 3 = .ok (.aload_n 0, 1) := by decide +kernel
theorem dL_copy_4 : decode cL_copy 4 = .ok (.arraylength, 1) := by decide +kernel
theorem dL_copy_5 : decode cL_copy 5 = .ok (.if_icmp .ge 15, 3) := by decide +kernel
theorem dL_copy_8 : decode cL_copy 8 = .ok (.aload_n 1, 1) := by decide +kernel
theorem dL_copy_9 : decode cL_copy 9 = .ok (.iload_n 2, 1) := by decide +kernel
theorem dL_copy_10 : decode cL_copy 10 = .ok (.aload_n 0, 1) := by decide +kernel
theorem dL_copy_11 : decode cL_copy 11 = .ok (.iload_n 2, 1) := by decide +kernel
theorem dL_copy_12 : decode cL_copy 12 = .ok (.iaload, 1) := by decide +kernel
theorem dL_copy_13 : decode cL_copy 13 = .ok (.iastore, 1) := by decide +kernel
theorem dL_copy_14 : decode cL_copy 14 = .ok (.iinc 2 1, 3) := by decide +kernel
theorem dL_copy_17 : decode cL_copy 17 = .ok (.goto (-15), 3) := by decide +kernel
theorem dL_copy_20 : decode cL_copy 20 = .ok (.return_, 1) := by decide +kernel
theorem dL_would_0 : decode cL_would 0 = .ok (.bipush 8, 2) := by decide +kernel
theorem dL_would_2 : decode cL_would 2 = .ok (.newarray .int, 2) := by decide +kernel
theorem dL_would_4 : decode cL_would 4 = .ok (.astore 9, 2) := by decide +kernel
theorem dL_would_6 : decode cL_would 6 = .ok (.bipush 50, 2) := by decide +kernel
theorem dL_would_8 : decode cL_would 8 = .ok (.newarray .int, 2) := by decide +kernel
theorem dL_would_10 : decode cL_would 10 = .ok (.astore 10, 2) := by decide +kernel
theorem dL_would_12 : decode cL_would 12 = .ok (.bipush 40, 2) := by decide +kernel
theorem dL_would_14 : decode cL_would 14 = .ok (.newarray .int, 2) := by decide +kernel
theorem dL_would_16 : decode cL_would 16 = .ok (.astore 11, 2) := by decide +kernel
theorem dL_would_18 : decode cL_would 18 = .ok (.bipush 24, 2) := by decide +kernel
theorem dL_would_20 : decode cL_would 20 = .ok (.newarray .int, 2) := by decide +kernel
theorem dL_would_22 : decode cL_would 22 = .ok (.astore 12, 2) := by decide +kernel
theorem dL_would_24 : decode cL_would 24 = .ok (.iconst 0, 1) := by decide +kernel
theorem dL_would_25 : decode cL_would 25 = .ok (.istore 13, 2) := by decide +kernel
theorem dL_would_27 : decode cL_would 27 = .ok (.iconst (-1), 1) := by decide +kernel
theorem dL_would_28 : decode cL_would 28 = .ok (.istore 14, 2) := by decide +kernel
theorem dL_would_30 : decode cL_would 30 = .ok (.iconst 0, 1) := by decide +kernel
theorem dL_would_31 : decode cL_would 31 = .ok (.istore 15, 2) := by decide +kernel
theorem dL_would_33 : decode cL_would 33 = .ok (.iload 15, 2) := by decide +kernel
theorem dL_would_35 : decode cL_would 35 = .ok (.iconst 1, 1) := by decide +kernel
theorem dL_would_36 : decode cL_would 36 = .ok (.iload_n 3, 1) := by decide +kernel
theorem dL_would_37 : decode cL_would 37 = .ok (.ishl, 1) := by decide +kernel
theorem dL_would_38 : decode cL_would 38 = .ok (.if_icmp .ge 165, 3) := by decide +kernel
theorem dL_would_41 : decode cL_would 41 = .ok (.aload 4, 2) := by decide +kernel
theorem dL_would_43 : decode cL_would 43 = .ok (.aload 9, 2) := by decide +kernel
theorem dL_would_45 : decode cL_would 45 = .ok (.invokestatic 70, 3) := by decide +kernel
theorem dL_would_48 : decode cL_would 48 = .ok (.aload 5, 2) := by decide +kernel
theorem dL_would_50 : decode cL_would 50 = .ok (.aload 10, 2) := by decide +kernel
theorem dL_would_52 : decode cL_would 52 = .ok (.invokestatic 70, 3) := by decide +kernel
theorem dL_would_55 : decode cL_would 55 = .ok (.aload 6, 2) := by decide +kernel
theorem dL_would_57 : decode cL_would 57 = .ok (.aload 11, 2) := by decide +kernel
theorem dL_would_59 : decode cL_would 59 = .ok (.invokestatic 70, 3) := by decide +kernel
theorem dL_would_62 : decode cL_would 62 = .ok (.aload 7, 2) := by decide +kernel
theorem dL_would_64 : decode cL_would 64 = .ok (.aload 12, 2) := by decide +kernel
theorem dL_would_66 : decode cL_would 66 = .ok (.invokestatic 70, 3) := by decide +kernel
theorem dL_would_69 : decode cL_would 69 = .ok (.iload_n 3, 1) := by decide +kernel
theorem dL_would_70 : decode cL_would 70 = .ok (.iconst 1, 1) := by decide +kernel
theorem dL_would_71 : decode cL_would 71 = .ok (.isub, 1) := by decide +kernel
theorem dL_would_72 : decode cL_would 72 = .ok (.istore 16, 2) := by decide +kernel
theorem dL_would_74 : decode cL_would 74 = .ok (.iload 16, 2) := by decide +kernel
theorem dL_would_76 : decode cL_would 76 = .ok (.ifCond .lt 31, 3) := by decide +kernel
theorem dL_would_79 : decode cL_would 79 = .ok (.iload_n 2, 1) := by decide +kernel
theorem dL_would_80 : decode cL_would 80 = .ok (.iload 15, 2) := by decide +kernel
theorem dL_would_82 : decode cL_would 82 = .ok (.iload 16, 2) := by decide +kernel
theorem dL_would_84 : decode cL_would 84 = .ok (.ishr, 1) := by decide +kernel
theorem dL_would_85 : decode cL_would 85 = .ok (.iconst 1, 1) := by decide +kernel
theorem dL_would_86 : decode cL_would 86 = .ok (.iand, 1) := by decide +kernel
theorem dL_would_87 : decode cL_would 87 = .ok (.aload 9, 2) := by decide +kernel
theorem dL_would_89 : decode cL_would 89 = .ok (.aload 10, 2) := by decide +kernel
theorem dL_would_91 : decode cL_would 91 = .ok (.aload 11, 2) := by decide +kernel
theorem dL_would_93 : decode cL_would 93 = .ok (.aload 12, 2) := by decide +kernel
theorem dL_would_95 : decode cL_would 95 = .ok (.aload 8, 2) := by decide +kernel
theorem dL_would_97 : decode cL_would 97 = .ok (.invokestatic 74, 3) := by decide +kernel
theorem dL_would_100 : decode cL_would 100 = .ok (.pop, 1) := by decide +kernel
theorem dL_would_101 : decode cL_would 101 = .ok (.iinc 16 (-1), 3) := by decide +kernel
theorem dL_would_104 : decode cL_would 104 = .ok (.goto (-30), 3) := by decide +kernel
theorem dL_would_107 : decode cL_would 107 = .ok (.iload_n 3, 1) := by decide +kernel
theorem dL_would_108 : decode cL_would 108 = .ok (.iconst 1, 1) := by decide +kernel
theorem dL_would_109 : decode cL_would 109 = .ok (.if_icmp .ne 35, 3) := by decide +kernel
theorem dL_would_112 : decode cL_would 112 = .ok (.aload_n 0, 1) := by decide +kernel
theorem dL_would_113 : decode cL_would 113 = .ok (.iload_n 1, 1) := by decide +kernel
theorem dL_would_114 : decode cL_would 114 = .ok (.iload_n 2, 1) := by decide +kernel
theorem dL_would_115 : decode cL_would 115 = .ok (.iload 15, 2) := by decide +kernel
theorem dL_would_117 : decode cL_would 117 = .ok (.invokevirtual 78, 3) := by decide +kernel
theorem dL_would_120 : decode cL_would 120 = .ok (.aload 10, 2) := by decide +kernel
theorem dL_would_122 : decode cL_would 122 = .ok (.bipush 10, 2) := by decide +kernel
theorem dL_would_124 : decode cL_would 124 = .ok (.iload_n 1, 1) := by decide +kernel
theorem dL_would_125 : decode cL_would 125 = .ok (.imul, 1) := by decide +kernel
theorem dL_would_126 : decode cL_would 126 = .ok (.iconst 2, 1) := by decide +kernel
theorem dL_would_127 : decode cL_would 127 = .ok (.iadd, 1) := by decide +kernel
theorem dL_would_128 : decode cL_would 128 = .ok (.iaload, 1) := by decide +kernel
theorem dL_would_129 : decode cL_would 129 = .ok (.aload 5, 2) := by decide +kernel
theorem dL_would_131 : decode cL_would 131 = .ok (.bipush 10, 2) := by decide +kernel
theorem dL_would_133 : decode cL_would 133 = .ok (.iload_n 1, 1) := by decide +kernel
theorem dL_would_134 : decode cL_would 134 = .ok (.imul, 1) := by decide +kernel
theorem dL_would_135 : decode cL_would 135 = .ok (.iconst 2, 1) := by decide +kernel
theorem dL_would_136 : decode cL_would 136 = .ok (.iadd, 1) := by decide +kernel
theorem dL_would_137 : decode cL_would 137 = .ok (.iaload, 1) := by decide +kernel
theorem dL_would_138 : decode cL_would 138 = .ok (.isub, 1) := by decide +kernel
theorem dL_would_139 : decode cL_would 139 = .ok (.if_icmp .eq 5, 3) := by decide +kernel
theorem dL_would_142 : decode cL_would 142 = .ok (.iconst 0, 1) := by decide +kernel
theorem dL_would_143 : decode cL_would 143 = .ok (.ireturn, 1) := by decide +kernel
theorem dL_would_144 : decode cL_would 144 = .ok (.aload 10, 2) := by decide +kernel
theorem dL_would_146 : decode cL_would 146 = .ok (.bipush 10, 2) := by decide +kernel
theorem dL_would_148 : decode cL_would 148 = .ok (.iload_n 1, 1) := by decide +kernel
theorem dL_would_149 : decode cL_would 149 = .ok (.imul, 1) := by decide +kernel
theorem dL_would_150 : decode cL_would 150 = .ok (.iconst 2, 1) := by decide +kernel
theorem dL_would_151 : decode cL_would 151 = .ok (.iadd, 1) := by decide +kernel
theorem dL_would_152 : decode cL_would 152 = .ok (.iaload, 1) := by decide +kernel
theorem dL_would_153 : decode cL_would 153 = .ok (.iload 14, 2) := by decide +kernel
theorem dL_would_155 : decode cL_would 155 = .ok (.if_icmp .le 8, 3) := by decide +kernel
theorem dL_would_158 : decode cL_would 158 = .ok (.iload 15, 2) := by decide +kernel
theorem dL_would_160 : decode cL_would 160 = .ok (.goto 5, 3) := by decide +kernel
theorem dL_would_163 : decode cL_would 163 = .ok (.iload 13, 2) := by decide +kernel
theorem dL_would_165 : decode cL_would 165 = .ok (.istore 13, 2) := by decide +kernel
theorem dL_would_167 : decode cL_would 167 = .ok (.aload 10, 2) := by decide +kernel
theorem dL_would_169 : decode cL_would 169 = .ok (.bipush 10, 2) := by decide +kernel
theorem dL_would_171 : decode cL_would 171 = .ok (.iload_n 1, 1) := by decide +kernel
theorem dL_would_172 : decode cL_would 172 = .ok (.imul, 1) := by decide +kernel
theorem dL_would_173 : decode cL_would 173 = .ok (.iconst 2, 1) := by decide +kernel
theorem dL_would_174 : decode cL_would 174 = .ok (.iadd, 1) := by decide +kernel
theorem dL_would_175 : decode cL_would 175 = .ok (.iaload, 1) := by decide +kernel
theorem dL_would_176 : decode cL_would 176 = .ok (.iload 14, 2) := by decide +kernel
theorem dL_would_178 : decode cL_would 178 = .ok (.if_icmp .le 15, 3) := by decide +kernel
theorem dL_would_181 : decode cL_would 181 = .ok (.aload 10, 2) := by decide +kernel
theorem dL_would_183 : decode cL_would 183 = .ok (.bipush 10, 2) := by decide +kernel
theorem dL_would_185 : decode cL_would 185 = .ok (.iload_n 1, 1) := by decide +kernel
theorem dL_would_186 : decode cL_would 186 = .ok (.imul, 1) := by decide +kernel
theorem dL_would_187 : decode cL_would 187 = .ok (.iconst 2, 1) := by decide +kernel
theorem dL_would_188 : decode cL_would 188 = .ok (.iadd, 1) := by decide +kernel
theorem dL_would_189 : decode cL_would 189 = .ok (.iaload, 1) := by decide +kernel
theorem dL_would_190 : decode cL_would 190 = .ok (.goto 5, 3) := by decide +kernel
theorem dL_would_193 : decode cL_would 193 = .ok (.iload 14, 2) := by decide +kernel
theorem dL_would_195 : decode cL_would 195 = .ok (.istore 14, 2) := by decide +kernel
theorem dL_would_197 : decode cL_would 197 = .ok (.iinc 15 1, 3) := by decide +kernel
theorem dL_would_200 : decode cL_would 200 = .ok (.goto (-167), 3) := by decide +kernel
theorem dL_would_203 : decode cL_would 203 = .ok (.aload_n 0, 1) := by decide +kernel
theorem dL_would_204 : decode cL_would 204 = .ok (.iload_n 1, 1) := by decide +kernel
theorem dL_would_205 : decode cL_would 205 = .ok (.iload_n 2, 1) := by decide +kernel
theorem dL_would_206 : decode cL_would 206 = .ok (.iload_n 3, 1) := by decide +kernel
theorem dL_would_207 : decode cL_would 207 = .ok (.iconst 0, 1) := by decide +kernel
theorem dL_would_208 : decode cL_would 208 = .ok (.invokevirtual 82, 3) := by decide +kernel
theorem dL_would_211 : decode cL_would 211 = .ok (.iload 13, 2) := by decide +kernel
theorem dL_would_213 : decode cL_would 213 = .ok (.if_icmp .ne 16, 3) := by decide +kernel
theorem dL_would_216 : decode cL_would 216 = .ok (.aload_n 0, 1) := by decide +kernel
theorem dL_would_217 : decode cL_would 217 = .ok (.iload_n 1, 1) := by decide +kernel
theorem dL_would_218 : decode cL_would 218 = .ok (.iload_n 2, 1) := by decide +kernel
theorem dL_would_219 : decode cL_would 219 = .ok (.iload_n 3, 1) := by decide +kernel
theorem dL_would_220 : decode cL_would 220 = .ok (.iconst 1, 1) := by decide +kernel
theorem dL_would_221 : decode cL_would 221 = .ok (.invokevirtual 82, 3) := by decide +kernel
theorem dL_would_224 : decode cL_would 224 = .ok (.iload 14, 2) := by decide +kernel
theorem dL_would_226 : decode cL_would 226 = .ok (.if_icmp .eq 5, 3) := by decide +kernel
theorem dL_would_229 : decode cL_would 229 = .ok (.iconst 0, 1) := by decide +kernel
theorem dL_would_230 : decode cL_would 230 = .ok (.ireturn, 1) := by decide +kernel
theorem dL_would_231 : decode cL_would 231 = .ok (.aload 4, 2) := by decide +kernel
theorem dL_would_233 : decode cL_would 233 = .ok (.aload 9, 2) := by decide +kernel
theorem dL_would_235 : decode cL_would 235 = .ok (.invokestatic 70, 3) := by decide +kernel
theorem dL_would_238 : decode cL_would 238 = .ok (.aload 5, 2) := by decide +kernel
theorem dL_would_240 : decode cL_would 240 = .ok (.aload 10, 2) := by decide +kernel
theorem dL_would_242 : decode cL_would 242 = .ok (.invokestatic 70, 3) := by decide +kernel
theorem dL_would_245 : decode cL_would 245 = .ok (.aload 6, 2) := by decide +kernel
theorem dL_would_247 : decode cL_would 247 = .ok (.aload 11, 2) := by decide +kernel
theorem dL_would_249 : decode cL_would 249 = .ok (.invokestatic 70, 3) := by decide +kernel
theorem dL_would_252 : decode cL_would 252 = .ok (.aload 7, 2) := by decide +kernel
theorem dL_would_254 : decode cL_would 254 = .ok (.aload 12, 2) := by decide +kernel
theorem dL_would_256 : decode cL_would 256 = .ok (.invokestatic 70, 3) := by decide +kernel
theorem dL_would_259 : decode cL_would 259 = .ok (.iconst 0, 1) := by decide +kernel
theorem dL_would_260 : decode cL_would 260 = .ok (.istore 15, 2) := by decide +kernel
theorem dL_would_262 : decode cL_would 262 = .ok (.iload 15, 2) := by decide +kernel
theorem dL_would_264 : decode cL_would 264 = .ok (.bipush 100, 2) := by decide +kernel
theorem dL_would_266 : decode cL_would 266 = .ok (.if_icmp .ge 39, 3) := by decide +kernel
theorem dL_would_269 : decode cL_would 269 = .ok (.aload 10, 2) := by decide +kernel
theorem dL_would_271 : decode cL_would 271 = .ok (.bipush 10, 2) := by decide +kernel
theorem dL_would_273 : decode cL_would 273 = .ok (.iload_n 1, 1) := by decide +kernel
theorem dL_would_274 : decode cL_would 274 = .ok (.imul, 1) := by decide +kernel
theorem dL_would_275 : decode cL_would 275 = .ok (.iconst 2, 1) := by decide +kernel
theorem dL_would_276 : decode cL_would 276 = .ok (.iadd, 1) := by decide +kernel
theorem dL_would_277 : decode cL_would 277 = .ok (.iaload, 1) := by decide +kernel
theorem dL_would_278 : decode cL_would 278 = .ok (.ifCond .le 27, 3) := by decide +kernel
theorem dL_would_281 : decode cL_would 281 = .ok (.iload_n 2, 1) := by decide +kernel
theorem dL_would_282 : decode cL_would 282 = .ok (.iload_n 3, 1) := by decide +kernel
theorem dL_would_283 : decode cL_would 283 = .ok (.iconst 2, 1) := by decide +kernel
theorem dL_would_284 : decode cL_would 284 = .ok (.irem, 1) := by decide +kernel
theorem dL_would_285 : decode cL_would 285 = .ok (.aload 9, 2) := by decide +kernel
theorem dL_would_287 : decode cL_would 287 = .ok (.aload 10, 2) := by decide +kernel
theorem dL_would_289 : decode cL_would 289 = .ok (.aload 11, 2) := by decide +kernel
theorem dL_would_291 : decode cL_would 291 = .ok (.aload 12, 2) := by decide +kernel
theorem dL_would_293 : decode cL_would 293 = .ok (.aload 8, 2) := by decide +kernel
theorem dL_would_295 : decode cL_would 295 = .ok (.invokestatic 74, 3) := by decide +kernel
theorem dL_would_298 : decode cL_would 298 = .ok (.pop, 1) := by decide +kernel
theorem dL_would_299 : decode cL_would 299 = .ok (.iinc 15 1, 3) := by decide +kernel
theorem dL_would_302 : decode cL_would 302 = .ok (.goto (-40), 3) := by decide +kernel
theorem dL_would_305 : decode cL_would 305 = .ok (.aload_n 0, 1) := by decide +kernel
theorem dL_would_306 : decode cL_would 306 = .ok (.iload_n 1, 1) := by decide +kernel
theorem dL_would_307 : decode cL_would 307 = .ok (.iload_n 2, 1) := by decide +kernel
theorem dL_would_308 : decode cL_would 308 = .ok (.iload_n 3, 1) := by decide +kernel
theorem dL_would_309 : decode cL_would 309 = .ok (.iconst 2, 1) := by decide +kernel
theorem dL_would_310 : decode cL_would 310 = .ok (.irem, 1) := by decide +kernel
theorem dL_would_311 : decode cL_would 311 = .ok (.invokevirtual 86, 3) := by decide +kernel
theorem dL_would_314 : decode cL_would 314 = .ok (.aload 10, 2) := by decide +kernel
theorem dL_would_316 : decode cL_would 316 = .ok (.bipush 10, 2) := by decide +kernel
theorem dL_would_318 : decode cL_would 318 = .ok (.iload_n 1, 1) := by decide +kernel
theorem dL_would_319 : decode cL_would 319 = .ok (.imul, 1) := by decide +kernel
theorem dL_would_320 : decode cL_would 320 = .ok (.iconst 2, 1) := by decide +kernel
theorem dL_would_321 : decode cL_would 321 = .ok (.iadd, 1) := by decide +kernel
theorem dL_would_322 : decode cL_would 322 = .ok (.iaload, 1) := by decide +kernel
theorem dL_would_323 : decode cL_would 323 = .ok (.ifCond .ne 8, 3) := by decide +kernel
theorem dL_would_326 : decode cL_would 326 = .ok (.iload 15, 2) := by decide +kernel
theorem dL_would_328 : decode cL_would 328 = .ok (.goto 5, 3) := by decide +kernel
theorem dL_would_331 : decode cL_would 331 = .ok (.ldc 44, 2) := by decide +kernel
theorem dL_would_333 : decode cL_would 333 = .ok (.if_icmp .ne 7, 3) := by decide +kernel
theorem dL_would_336 : decode cL_would 336 = .ok (.iconst 1, 1) := by decide +kernel
theorem dL_would_337 : decode cL_would 337 = .ok (.goto 4, 3) := by decide +kernel
theorem dL_would_340 : decode cL_would 340 = .ok (.iconst 0, 1) := by decide +kernel
theorem dL_would_341 : decode cL_would 341 = .ok (.ireturn, 1) := by decide +kernel
theorem dL_law_0 : decode cL_law 0 = .ok (.new 39, 3) := by decide +kernel
theorem dL_law_3 : decode cL_law 3 = .ok (.dup, 1) := by decide +kernel
theorem dL_law_4 : decode cL_law 4 = .ok (.invokespecial 89, 3) := by decide +kernel
theorem dL_law_7 : decode cL_law 7 = .ok (.astore_n 1, 1) := by decide +kernel
theorem dL_law_8 : decode cL_law 8 = .ok (.bipush 8, 2) := by decide +kernel
theorem dL_law_10 : decode cL_law 10 = .ok (.newarray .int, 2) := by decide +kernel
theorem dL_law_12 : decode cL_law 12 = .ok (.astore_n 2, 1) := by decide +kernel
theorem dL_law_13 : decode cL_law 13 = .ok (.bipush 50, 2) := by decide +kernel
theorem dL_law_15 : decode cL_law 15 = .ok (.newarray .int, 2) := by decide +kernel
theorem dL_law_17 : decode cL_law 17 = .ok (.astore_n 3, 1) := by decide +kernel
theorem dL_law_18 : decode cL_law 18 = .ok (.bipush 40, 2) := by decide +kernel
theorem dL_law_20 : decode cL_law 20 = .ok (.newarray .int, 2) := by decide +kernel
theorem dL_law_22 : decode cL_law 22 = .ok (.astore 4, 2) := by decide +kernel
theorem dL_law_24 : decode cL_law 24 = .ok (.bipush 24, 2) := by decide +kernel
theorem dL_law_26 : decode cL_law 26 = .ok (.newarray .int, 2) := by decide +kernel
theorem dL_law_28 : decode cL_law 28 = .ok (.astore 5, 2) := by decide +kernel
theorem dL_law_30 : decode cL_law 30 = .ok (.bipush 15, 2) := by decide +kernel
theorem dL_law_32 : decode cL_law 32 = .ok (.newarray .int, 2) := by decide +kernel
theorem dL_law_34 : decode cL_law 34 = .ok (.astore 6, 2) := by decide +kernel
theorem dL_law_36 : decode cL_law 36 = .ok (.aload_n 2, 1) := by decide +kernel
theorem dL_law_37 : decode cL_law 37 = .ok (.iconst 0, 1) := by decide +kernel
theorem dL_law_38 : decode cL_law 38 = .ok (.iconst 1, 1) := by decide +kernel
theorem dL_law_39 : decode cL_law 39 = .ok (.aload_n 0, 1) := by decide +kernel
theorem dL_law_40 : decode cL_law 40 = .ok (.iconst 0, 1) := by decide +kernel
theorem dL_law_41 : decode cL_law 41 = .ok (.invokestatic 90, 3) := by decide +kernel
theorem dL_law_44 : decode cL_law 44 = .ok (.bipush 20, 2) := by decide +kernel
theorem dL_law_46 : decode cL_law 46 = .ok (.invokestatic 94, 3) := by decide +kernel
theorem dL_law_49 : decode cL_law 49 = .ok (.iadd, 1) := by decide +kernel
theorem dL_law_50 : decode cL_law 50 = .ok (.iastore, 1) := by decide +kernel
theorem dL_law_51 : decode cL_law 51 = .ok (.aload_n 2, 1) := by decide +kernel
theorem dL_law_52 : decode cL_law 52 = .ok (.iconst 1, 1) := by decide +kernel
theorem dL_law_53 : decode cL_law 53 = .ok (.aload_n 0, 1) := by decide +kernel
theorem dL_law_54 : decode cL_law 54 = .ok (.iconst 0, 1) := by decide +kernel
theorem dL_law_55 : decode cL_law 55 = .ok (.invokestatic 90, 3) := by decide +kernel
theorem dL_law_58 : decode cL_law 58 = .ok (.iconst 5, 1) := by decide +kernel
theorem dL_law_59 : decode cL_law 59 = .ok (.ishr, 1) := by decide +kernel
theorem dL_law_60 : decode cL_law 60 = .ok (.bipush 51, 2) := by decide +kernel
theorem dL_law_62 : decode cL_law 62 = .ok (.invokestatic 94, 3) := by decide +kernel
theorem dL_law_65 : decode cL_law 65 = .ok (.iastore, 1) := by decide +kernel
theorem dL_law_66 : decode cL_law 66 = .ok (.aload_n 2, 1) := by decide +kernel
theorem dL_law_67 : decode cL_law 67 = .ok (.iconst 2, 1) := by decide +kernel
theorem dL_law_68 : decode cL_law 68 = .ok (.aload_n 0, 1) := by decide +kernel
theorem dL_law_69 : decode cL_law 69 = .ok (.iconst 0, 1) := by decide +kernel
theorem dL_law_70 : decode cL_law 70 = .ok (.invokestatic 90, 3) := by decide +kernel
theorem dL_law_73 : decode cL_law 73 = .ok (.bipush 11, 2) := by decide +kernel
theorem dL_law_75 : decode cL_law 75 = .ok (.ishr, 1) := by decide +kernel
theorem dL_law_76 : decode cL_law 76 = .ok (.bipush 101, 2) := by decide +kernel
theorem dL_law_78 : decode cL_law 78 = .ok (.invokestatic 94, 3) := by decide +kernel
theorem dL_law_81 : decode cL_law 81 = .ok (.iastore, 1) := by decide +kernel
theorem dL_law_82 : decode cL_law 82 = .ok (.aload_n 1, 1) := by decide +kernel
theorem dL_law_83 : decode cL_law 83 = .ok (.iconst 0, 1) := by decide +kernel
theorem dL_law_84 : decode cL_law 84 = .ok (.aload_n 2, 1) := by decide +kernel
theorem dL_law_85 : decode cL_law 85 = .ok (.iconst 0, 1) := by decide +kernel
theorem dL_law_86 : decode cL_law 86 = .ok (.iaload, 1) := by decide +kernel
theorem dL_law_87 : decode cL_law 87 = .ok (.invokevirtual 97, 3) := by decide +kernel
theorem dL_law_90 : decode cL_law 90 = .ok (.iconst 5, 1) := by decide +kernel
theorem dL_law_91 : decode cL_law 91 = .ok (.if_icmp .ne 29, 3) := by decide +kernel
theorem dL_law_94 : decode cL_law 94 = .ok (.aload_n 1, 1) := by decide +kernel
theorem dL_law_95 : decode cL_law 95 = .ok (.iconst 1, 1) := by decide +kernel
theorem dL_law_96 : decode cL_law 96 = .ok (.aload_n 2, 1) := by decide +kernel
theorem dL_law_97 : decode cL_law 97 = .ok (.iconst 1, 1) := by decide +kernel
theorem dL_law_98 : decode cL_law 98 = .ok (.iaload, 1) := by decide +kernel
theorem dL_law_99 : decode cL_law 99 = .ok (.invokevirtual 97, 3) := by decide +kernel
theorem dL_law_102 : decode cL_law 102 = .ok (.bipush 10, 2) := by decide +kernel
theorem dL_law_104 : decode cL_law 104 = .ok (.if_icmp .ne 16, 3) := by decide +kernel
theorem dL_law_107 : decode cL_law 107 = .ok (.aload_n 1, 1) := by decide +kernel
theorem dL_law_108 : decode cL_law 108 = .ok (.iconst 2, 1) := by decide +kernel
theorem dL_law_109 : decode cL_law 109 = .ok (.aload_n 2, 1) := by decide +kernel
theorem dL_law_110 : decode cL_law 110 = .ok (.iconst 2, 1) := by decide +kernel
theorem dL_law_111 : decode cL_law 111 = .ok (.iaload, 1) := by decide +kernel
theorem dL_law_112 : decode cL_law 112 = .ok (.invokevirtual 97, 3) := by decide +kernel
theorem dL_law_115 : decode cL_law 115 = .ok (.bipush 50, 2) := by decide +kernel
theorem dL_law_117 : decode cL_law 117 = .ok (.if_icmp .eq 5, 3) := by decide +kernel
theorem dL_law_120 : decode cL_law 120 = .ok (.iconst 0, 1) := by decide +kernel
theorem dL_law_121 : decode cL_law 121 = .ok (.ireturn, 1) := by decide +kernel
theorem dL_law_122 : decode cL_law 122 = .ok (.iconst 0, 1) := by decide +kernel
theorem dL_law_123 : decode cL_law 123 = .ok (.istore 7, 2) := by decide +kernel
theorem dL_law_125 : decode cL_law 125 = .ok (.iload 7, 2) := by decide +kernel
theorem dL_law_127 : decode cL_law 127 = .ok (.bipush 40, 2) := by decide +kernel
theorem dL_law_129 : decode cL_law 129 = .ok (.if_icmp .ge 15, 3) := by decide +kernel
theorem dL_law_132 : decode cL_law 132 = .ok (.aload 4, 2) := by decide +kernel
theorem dL_law_134 : decode cL_law 134 = .ok (.iload 7, 2) := by decide +kernel
theorem dL_law_136 : decode cL_law 136 = .ok (.iconst 1, 1) := by decide +kernel
theorem dL_law_137 : decode cL_law 137 = .ok (.iastore, 1) := by decide +kernel
theorem dL_law_138 : decode cL_law 138 = .ok (.iinc 7 1, 3) := by decide +kernel
theorem dL_law_141 : decode cL_law 141 = .ok (.goto (-16), 3) := by decide +kernel
theorem dL_law_144 : decode cL_law 144 = .ok (.iconst 0, 1) := by decide +kernel
theorem dL_law_145 : decode cL_law 145 = .ok (.istore 7, 2) := by decide +kernel
theorem dL_law_147 : decode cL_law 147 = .ok (.iload 7, 2) := by decide +kernel
theorem dL_law_149 : decode cL_law 149 = .ok (.iconst 5, 1) := by decide +kernel
theorem dL_law_150 : decode cL_law 150 = .ok (.if_icmp .ge 131, 3) := by decide +kernel
theorem dL_law_153 : decode cL_law 153 = .ok (.aload_n 0, 1) := by decide +kernel
theorem dL_law_154 : decode cL_law 154 = .ok (.iconst 1, 1) := by decide +kernel
theorem dL_law_155 : decode cL_law 155 = .ok (.iload 7, 2) := by decide +kernel
theorem dL_law_157 : decode cL_law 157 = .ok (.iadd, 1) := by decide +kernel
theorem dL_law_158 : decode cL_law 158 = .ok (.invokestatic 90, 3) := by decide +kernel
theorem dL_law_161 : decode cL_law 161 = .ok (.istore 8, 2) := by decide +kernel
theorem dL_law_163 : decode cL_law 163 = .ok (.bipush 10, 2) := by decide +kernel
theorem dL_law_165 : decode cL_law 165 = .ok (.iload 7, 2) := by decide +kernel
theorem dL_law_167 : decode cL_law 167 = .ok (.imul, 1) := by decide +kernel
theorem dL_law_168 : decode cL_law 168 = .ok (.istore 9, 2) := by decide +kernel
theorem dL_law_170 : decode cL_law 170 = .ok (.aload_n 3, 1) := by decide +kernel
theorem dL_law_171 : decode cL_law 171 = .ok (.iload 9, 2) := by decide +kernel
theorem dL_law_173 : decode cL_law 173 = .ok (.iload 8, 2) := by decide +kernel
theorem dL_law_175 : decode cL_law 175 = .ok (.iconst 5, 1) := by decide +kernel
theorem dL_law_176 : decode cL_law 176 = .ok (.invokestatic 94, 3) := by decide +kernel
theorem dL_law_179 : decode cL_law 179 = .ok (.iastore, 1) := by decide +kernel
theorem dL_law_180 : decode cL_law 180 = .ok (.aload_n 3, 1) := by decide +kernel
theorem dL_law_181 : decode cL_law 181 = .ok (.iload 9, 2) := by decide +kernel
theorem dL_law_183 : decode cL_law 183 = .ok (.iconst 1, 1) := by decide +kernel
theorem dL_law_184 : decode cL_law 184 = .ok (.iadd, 1) := by decide +kernel
theorem dL_law_185 : decode cL_law 185 = .ok (.aload_n 3, 1) := by decide +kernel
theorem dL_law_186 : decode cL_law 186 = .ok (.iload 9, 2) := by decide +kernel
theorem dL_law_188 : decode cL_law 188 = .ok (.iaload, 1) := by decide +kernel
theorem dL_law_189 : decode cL_law 189 = .ok (.ifCond .ne 14, 3) := by decide +kernel
theorem dL_law_192 : decode cL_law 192 = .ok (.iload 8, 2) := by decide +kernel
theorem dL_law_194 : decode cL_law 194 = .ok (.iconst 3, 1) := by decide +kernel
theorem dL_law_195 : decode cL_law 195 = .ok (.ishr, 1) := by decide +kernel
theorem dL_law_196 : decode cL_law 196 = .ok (.iconst 2, 1) := by decide +kernel
theorem dL_law_197 : decode cL_law 197 = .ok (.invokestatic 94, 3) := by decide +kernel
theorem dL_law_200 : decode cL_law 200 = .ok (.goto 23, 3) := by decide +kernel
theorem dL_law_203 : decode cL_law 203 = .ok (.aload_n 3, 1) := by decide +kernel
theorem dL_law_204 : decode cL_law 204 = .ok (.iload 9, 2) := by decide +kernel
theorem dL_law_206 : decode cL_law 206 = .ok (.iaload, 1) := by decide +kernel
theorem dL_law_207 : decode cL_law 207 = .ok (.iconst 4, 1) := by decide +kernel
theorem dL_law_208 : decode cL_law 208 = .ok (.if_icmp .ne 7, 3) := by decide +kernel
theorem dL_law_211 : decode cL_law 211 = .ok (.iconst 0, 1) := by decide +kernel
theorem dL_law_212 : decode cL_law 212 = .ok (.goto 11, 3) := by decide +kernel
theorem dL_law_215 : decode cL_law 215 = .ok (.iload 8, 2) := by decide +kernel
theorem dL_law_217 : decode cL_law 217 = .ok (.iconst 3, 1) := by decide +kernel
theorem dL_law_218 : decode cL_law 218 = .ok (.ishr, 1) := by decide +kernel
theorem dL_law_219 : decode cL_law 219 = .ok (.iconst 4, 1) := by decide +kernel
theorem dL_law_220 : decode cL_law 220 = .ok (.invokestatic 94, 3) := by decide +kernel
theorem dL_law_223 : decode cL_law 223 = .ok (.iastore, 1) := by decide +kernel
theorem dL_law_224 : decode cL_law 224 = .ok (.aload_n 3, 1) := by decide +kernel
theorem dL_law_225 : decode cL_law 225 = .ok (.iload 9, 2) := by decide +kernel
theorem dL_law_227 : decode cL_law 227 = .ok (.iconst 2, 1) := by decide +kernel
theorem dL_law_228 : decode cL_law 228 = .ok (.iadd, 1) := by decide +kernel
theorem dL_law_229 : decode cL_law 229 = .ok (.iload 8, 2) := by decide +kernel
theorem dL_law_231 : decode cL_law 231 = .ok (.bipush 6, 2) := by decide +kernel
theorem dL_law_233 : decode cL_law 233 = .ok (.ishr, 1) := by decide +kernel
theorem dL_law_234 : decode cL_law 234 = .ok (.sipush 200, 3) := by decide +kernel
theorem dL_law_237 : decode cL_law 237 = .ok (.invokestatic 94, 3) := by decide +kernel
theorem dL_law_240 : decode cL_law 240 = .ok (.iastore, 1) := by decide +kernel
theorem dL_law_241 : decode cL_law 241 = .ok (.aload_n 3, 1) := by decide +kernel
theorem dL_law_242 : decode cL_law 242 = .ok (.iload 9, 2) := by decide +kernel
theorem dL_law_244 : decode cL_law 244 = .ok (.iconst 3, 1) := by decide +kernel
theorem dL_law_245 : decode cL_law 245 = .ok (.iadd, 1) := by decide +kernel
theorem dL_law_246 : decode cL_law 246 = .ok (.iconst (-1), 1) := by decide +kernel
theorem dL_law_247 : decode cL_law 247 = .ok (.iastore, 1) := by decide +kernel
theorem dL_law_248 : decode cL_law 248 = .ok (.aload_n 1, 1) := by decide +kernel
theorem dL_law_249 : decode cL_law 249 = .ok (.aload_n 3, 1) := by decide +kernel
theorem dL_law_250 : decode cL_law 250 = .ok (.iload 9, 2) := by decide +kernel
theorem dL_law_252 : decode cL_law 252 = .ok (.iaload, 1) := by decide +kernel
theorem dL_law_253 : decode cL_law 253 = .ok (.aload_n 3, 1) := by decide +kernel
theorem dL_law_254 : decode cL_law 254 = .ok (.iload 9, 2) := by decide +kernel
theorem dL_law_256 : decode cL_law 256 = .ok (.iconst 1, 1) := by decide +kernel
theorem dL_law_257 : decode cL_law 257 = .ok (.iadd, 1) := by decide +kernel
theorem dL_law_258 : decode cL_law 258 = .ok (.iaload, 1) := by decide +kernel
theorem dL_law_259 : decode cL_law 259 = .ok (.aload_n 3, 1) := by decide +kernel
theorem dL_law_260 : decode cL_law 260 = .ok (.iload 9, 2) := by decide +kernel
theorem dL_law_262 : decode cL_law 262 = .ok (.iconst 2, 1) := by decide +kernel
theorem dL_law_263 : decode cL_law 263 = .ok (.iadd, 1) := by decide +kernel
theorem dL_law_264 : decode cL_law 264 = .ok (.iaload, 1) := by decide +kernel
theorem dL_law_265 : decode cL_law 265 = .ok (.invokevirtual 100, 3) := by decide +kernel
theorem dL_law_268 : decode cL_law 268 = .ok (.iload 7, 2) := by decide +kernel
theorem dL_law_270 : decode cL_law 270 = .ok (.if_icmp .eq 5, 3) := by decide +kernel
theorem dL_law_273 : decode cL_law 273 = .ok (.iconst 0, 1) := by decide +kernel
theorem dL_law_274 : decode cL_law 274 = .ok (.ireturn, 1) := by decide +kernel
theorem dL_law_275 : decode cL_law 275 = .ok (.iinc 7 1, 3) := by decide +kernel
theorem dL_law_278 : decode cL_law 278 = .ok (.goto (-131), 3) := by decide +kernel
theorem dL_law_281 : decode cL_law 281 = .ok (.iconst 0, 1) := by decide +kernel
theorem dL_law_282 : decode cL_law 282 = .ok (.istore 7, 2) := by decide +kernel
theorem dL_law_284 : decode cL_law 284 = .ok (.iload 7, 2) := by decide +kernel
theorem dL_law_286 : decode cL_law 286 = .ok (.bipush 16, 2) := by decide +kernel
theorem dL_law_288 : decode cL_law 288 = .ok (.if_icmp .ge 636, 3) := by decide +kernel
theorem dL_law_291 : decode cL_law 291 = .ok (.aload_n 0, 1) := by decide +kernel
theorem dL_law_292 : decode cL_law 292 = .ok (.bipush 6, 2) := by decide +kernel
theorem dL_law_294 : decode cL_law 294 = .ok (.iload 7, 2) := by decide +kernel
theorem dL_law_296 : decode cL_law 296 = .ok (.iadd, 1) := by decide +kernel
theorem dL_law_297 : decode cL_law 297 = .ok (.invokestatic 90, 3) := by decide +kernel
theorem dL_law_300 : decode cL_law 300 = .ok (.istore 8, 2) := by decide +kernel
theorem dL_law_302 : decode cL_law 302 = .ok (.iload 8, 2) := by decide +kernel
theorem dL_law_304 : decode cL_law 304 = .ok (.bipush 8, 2) := by decide +kernel
theorem dL_law_306 : decode cL_law 306 = .ok (.invokestatic 94, 3) := by decide +kernel
theorem dL_law_309 : decode cL_law 309 = .ok (.istore 9, 2) := by decide +kernel
theorem dL_law_311 : decode cL_law 311 = .ok (.iload 8, 2) := by decide +kernel
theorem dL_law_313 : decode cL_law 313 = .ok (.iconst 3, 1) := by decide +kernel
theorem dL_law_314 : decode cL_law 314 = .ok (.ishr, 1) := by decide +kernel
theorem dL_law_315 : decode cL_law 315 = .ok (.iconst 5, 1) := by decide +kernel
theorem dL_law_316 : decode cL_law 316 = .ok (.invokestatic 94, 3) := by decide +kernel
theorem dL_law_319 : decode cL_law 319 = .ok (.istore 10, 2) := by decide +kernel
theorem dL_law_321 : decode cL_law 321 = .ok (.bipush 10, 2) := by decide +kernel
theorem dL_law_323 : decode cL_law 323 = .ok (.iload 10, 2) := by decide +kernel
theorem dL_law_325 : decode cL_law 325 = .ok (.imul, 1) := by decide +kernel
theorem dL_law_326 : decode cL_law 326 = .ok (.istore 11, 2) := by decide +kernel
theorem dL_law_328 : decode cL_law 328 = .ok (.iload 8, 2) := by decide +kernel
theorem dL_law_330 : decode cL_law 330 = .ok (.bipush 6, 2) := by decide +kernel
theorem dL_law_332 : decode cL_law 332 = .ok (.ishr, 1) := by decide +kernel
theorem dL_law_333 : decode cL_law 333 = .ok (.bipush 64, 2) := by decide +kernel
theorem dL_law_335 : decode cL_law 335 = .ok (.invokestatic 94, 3) := by decide +kernel
theorem dL_law_338 : decode cL_law 338 = .ok (.istore 12, 2) := by decide +kernel
theorem dL_law_340 : decode cL_law 340 = .ok (.iload 9, 2) := by decide +kernel
theorem dL_law_342 : decode cL_law 342 = .ok (.iconst 2, 1) := by decide +kernel
theorem dL_law_343 : decode cL_law 343 = .ok (.if_icmp .lt 9, 3) := by decide +kernel
theorem dL_law_346 : decode cL_law 346 = .ok (.iload 7, 2) := by decide +kernel
theorem dL_law_348 : decode cL_law 348 = .ok (.iconst 5, 1) := by decide +kernel
theorem dL_law_349 : decode cL_law 349 = .ok (.if_icmp .ge 218, 3) := by decide +kernel
theorem dL_law_352 : decode cL_law 352 = .ok (.iload 7, 2) := by decide +kernel
theorem dL_law_354 : decode cL_law 354 = .ok (.iconst 5, 1) := by decide +kernel
theorem dL_law_355 : decode cL_law 355 = .ok (.if_icmp .ge 8, 3) := by decide +kernel
theorem dL_law_358 : decode cL_law 358 = .ok (.iload 7, 2) := by decide +kernel
theorem dL_law_360 : decode cL_law 360 = .ok (.goto 5, 3) := by decide +kernel
theorem dL_law_363 : decode cL_law 363 = .ok (.iload 10, 2) := by decide +kernel
theorem dL_law_365 : decode cL_law 365 = .ok (.istore 10, 2) := by decide +kernel
theorem dL_law_367 : decode cL_law 367 = .ok (.bipush 10, 2) := by decide +kernel
theorem dL_law_369 : decode cL_law 369 = .ok (.iload 10, 2) := by decide +kernel
theorem dL_law_371 : decode cL_law 371 = .ok (.imul, 1) := by decide +kernel
theorem dL_law_372 : decode cL_law 372 = .ok (.istore 11, 2) := by decide +kernel
theorem dL_law_374 : decode cL_law 374 = .ok (.iload 8, 2) := by decide +kernel
theorem dL_law_376 : decode cL_law 376 = .ok (.bipush 9, 2) := by decide +kernel
theorem dL_law_378 : decode cL_law 378 = .ok (.ishr, 1) := by decide +kernel
theorem dL_law_379 : decode cL_law 379 = .ok (.iconst 3, 1) := by decide +kernel
theorem dL_law_380 : decode cL_law 380 = .ok (.invokestatic 94, 3) := by decide +kernel
theorem dL_law_383 : decode cL_law 383 = .ok (.istore 13, 2) := by decide +kernel
theorem dL_law_385 : decode cL_law 385 = .ok (.iconst 0, 1) := by decide +kernel
theorem dL_law_386 : decode cL_law 386 = .ok (.istore 14, 2) := by decide +kernel
theorem dL_law_388 : decode cL_law 388 = .ok (.iconst 0, 1) := by decide +kernel
theorem dL_law_389 : decode cL_law 389 = .ok (.istore 15, 2) := by decide +kernel
theorem dL_law_391 : decode cL_law 391 = .ok (.iload 15, 2) := by decide +kernel
theorem dL_law_393 : decode cL_law 393 = .ok (.iconst 5, 1) := by decide +kernel
theorem dL_law_394 : decode cL_law 394 = .ok (.if_icmp .ge 33, 3) := by decide +kernel
theorem dL_law_397 : decode cL_law 397 = .ok (.iload 14, 2) := by decide +kernel
theorem dL_law_399 : decode cL_law 399 = .ok (.aload_n 3, 1) := by decide +kernel
theorem dL_law_400 : decode cL_law 400 = .ok (.bipush 10, 2) := by decide +kernel
theorem dL_law_402 : decode cL_law 402 = .ok (.iload 15, 2) := by decide +kernel
theorem dL_law_404 : decode cL_law 404 = .ok (.imul, 1) := by decide +kernel
theorem dL_law_405 : decode cL_law 405 = .ok (.iconst 3, 1) := by decide +kernel
theorem dL_law_406 : decode cL_law 406 = .ok (.iadd, 1) := by decide +kernel
theorem dL_law_407 : decode cL_law 407 = .ok (.iaload, 1) := by decide +kernel
theorem dL_law_408 : decode cL_law 408 = .ok (.iload 13, 2) := by decide +kernel
theorem dL_law_410 : decode cL_law 410 = .ok (.if_icmp .ne 7, 3) := by decide +kernel
theorem dL_law_413 : decode cL_law 413 = .ok (.iconst 1, 1) := by decide +kernel
theorem dL_law_414 : decode cL_law 414 = .ok (.goto 4, 3) := by decide +kernel
theorem dL_law_417 : decode cL_law 417 = .ok (.iconst 0, 1) := by decide +kernel
theorem dL_law_418 : decode cL_law 418 = .ok (.iadd, 1) := by decide +kernel
theorem dL_law_419 : decode cL_law 419 = .ok (.istore 14, 2) := by decide +kernel
theorem dL_law_421 : decode cL_law 421 = .ok (.iinc 15 1, 3) := by decide +kernel
theorem dL_law_424 : decode cL_law 424 = .ok (.goto (-33), 3) := by decide +kernel
theorem dL_law_427 : decode cL_law 427 = .ok (.iload 13, 2) := by decide +kernel
theorem dL_law_429 : decode cL_law 429 = .ok (.iconst 2, 1) := by decide +kernel
theorem dL_law_430 : decode cL_law 430 = .ok (.if_icmp .eq 30, 3) := by decide +kernel
theorem dL_law_433 : decode cL_law 433 = .ok (.iload 13, 2) := by decide +kernel
theorem dL_law_435 : decode cL_law 435 = .ok (.ifCond .ne 10, 3) := by decide +kernel
theorem dL_law_438 : decode cL_law 438 = .ok (.aload_n 3, 1) := by decide +kernel
theorem dL_law_439 : decode cL_law 439 = .ok (.iload 11, 2) := by decide +kernel
theorem dL_law_441 : decode cL_law 441 = .ok (.iaload, 1) := by decide +kernel
theorem dL_law_442 : decode cL_law 442 = .ok (.ifCond .eq 18, 3) := by decide +kernel
theorem dL_law_445 : decode cL_law 445 = .ok (.iload 13, 2) := by decide +kernel
theorem dL_law_447 : decode cL_law 447 = .ok (.iconst 1, 1) := by decide +kernel
theorem dL_law_448 : decode cL_law 448 = .ok (.if_icmp .ne 16, 3) := by decide +kernel
theorem dL_law_451 : decode cL_law 451 = .ok (.iload 10, 2) := by decide +kernel
theorem dL_law_453 : decode cL_law 453 = .ok (.aload_n 3, 1) := by decide +kernel
theorem dL_law_454 : decode cL_law 454 = .ok (.invokestatic 24, 3) := by decide +kernel
theorem dL_law_457 : decode cL_law 457 = .ok (.ifCond .eq 7, 3) := by decide +kernel
theorem dL_law_460 : decode cL_law 460 = .ok (.iconst 1, 1) := by decide +kernel
theorem dL_law_461 : decode cL_law 461 = .ok (.goto 4, 3) := by decide +kernel
theorem dL_law_464 : decode cL_law 464 = .ok (.iconst 0, 1) := by decide +kernel
theorem dL_law_465 : decode cL_law 465 = .ok (.istore 15, 2) := by decide +kernel
theorem dL_law_467 : decode cL_law 467 = .ok (.aload_n 3, 1) := by decide +kernel
theorem dL_law_468 : decode cL_law 468 = .ok (.iload 11, 2) := by decide +kernel
theorem dL_law_470 : decode cL_law 470 = .ok (.iconst 3, 1) := by decide +kernel
theorem dL_law_471 : decode cL_law 471 = .ok (.iadd, 1) := by decide +kernel
theorem dL_law_472 : decode cL_law 472 = .ok (.iaload, 1) := by decide +kernel
theorem dL_law_473 : decode cL_law 473 = .ok (.ifCond .lt 30, 3) := by decide +kernel
theorem dL_law_476 : decode cL_law 476 = .ok (.aload_n 1, 1) := by decide +kernel
theorem dL_law_477 : decode cL_law 477 = .ok (.iload 10, 2) := by decide +kernel
theorem dL_law_479 : decode cL_law 479 = .ok (.invokevirtual 103, 3) := by decide +kernel
theorem dL_law_482 : decode cL_law 482 = .ok (.aload_n 3, 1) := by decide +kernel
theorem dL_law_483 : decode cL_law 483 = .ok (.iload 11, 2) := by decide +kernel
theorem dL_law_485 : decode cL_law 485 = .ok (.iconst 3, 1) := by decide +kernel
theorem dL_law_486 : decode cL_law 486 = .ok (.iadd, 1) := by decide +kernel
theorem dL_law_487 : decode cL_law 487 = .ok (.iaload, 1) := by decide +kernel
theorem dL_law_488 : decode cL_law 488 = .ok (.if_icmp .eq 5, 3) := by decide +kernel
theorem dL_law_491 : decode cL_law 491 = .ok (.iconst 0, 1) := by decide +kernel
theorem dL_law_492 : decode cL_law 492 = .ok (.ireturn, 1) := by decide +kernel
theorem dL_law_493 : decode cL_law 493 = .ok (.aload_n 3, 1) := by decide +kernel
theorem dL_law_494 : decode cL_law 494 = .ok (.iload 11, 2) := by decide +kernel
theorem dL_law_496 : decode cL_law 496 = .ok (.iconst 3, 1) := by decide +kernel
theorem dL_law_497 : decode cL_law 497 = .ok (.iadd, 1) := by decide +kernel
theorem dL_law_498 : decode cL_law 498 = .ok (.iconst (-1), 1) := by decide +kernel
theorem dL_law_499 : decode cL_law 499 = .ok (.iastore, 1) := by decide +kernel
theorem dL_law_500 : decode cL_law 500 = .ok (.goto 64, 3) := by decide +kernel
theorem dL_law_503 : decode cL_law 503 = .ok (.aload_n 1, 1) := by decide +kernel
theorem dL_law_504 : decode cL_law 504 = .ok (.iload 10, 2) := by decide +kernel
theorem dL_law_506 : decode cL_law 506 = .ok (.iload 13, 2) := by decide +kernel
theorem dL_law_508 : decode cL_law 508 = .ok (.invokevirtual 106, 3) := by decide +kernel
theorem dL_law_511 : decode cL_law 511 = .ok (.iload 15, 2) := by decide +kernel
theorem dL_law_513 : decode cL_law 513 = .ok (.ifCond .ne 8, 3) := by decide +kernel
theorem dL_law_516 : decode cL_law 516 = .ok (.ldc 109, 2) := by decide +kernel
theorem dL_law_518 : decode cL_law 518 = .ok (.goto 18, 3) := by decide +kernel
theorem dL_law_521 : decode cL_law 521 = .ok (.iload 14, 2) := by decide +kernel
theorem dL_law_523 : decode cL_law 523 = .ok (.iconst 2, 1) := by decide +kernel
theorem dL_law_524 : decode cL_law 524 = .ok (.if_icmp .ne 8, 3) := by decide +kernel
theorem dL_law_527 : decode cL_law 527 = .ok (.ldc 110, 2) := by decide +kernel
theorem dL_law_529 : decode cL_law 529 = .ok (.goto 7, 3) := by decide +kernel
theorem dL_law_532 : decode cL_law 532 = .ok (.iload 14, 2) := by decide +kernel
theorem dL_law_534 : decode cL_law 534 = .ok (.iconst 1, 1) := by decide +kernel
theorem dL_law_535 : decode cL_law 535 = .ok (.iadd, 1) := by decide +kernel
theorem dL_law_536 : decode cL_law 536 = .ok (.if_icmp .eq 5, 3) := by decide +kernel
theorem dL_law_539 : decode cL_law 539 = .ok (.iconst 0, 1) := by decide +kernel
theorem dL_law_540 : decode cL_law 540 = .ok (.ireturn, 1) := by decide +kernel
theorem dL_law_541 : decode cL_law 541 = .ok (.aload_n 3, 1) := by decide +kernel
theorem dL_law_542 : decode cL_law 542 = .ok (.iload 11, 2) := by decide +kernel
theorem dL_law_544 : decode cL_law 544 = .ok (.iconst 3, 1) := by decide +kernel
theorem dL_law_545 : decode cL_law 545 = .ok (.iadd, 1) := by decide +kernel
theorem dL_law_546 : decode cL_law 546 = .ok (.iload 15, 2) := by decide +kernel
theorem dL_law_548 : decode cL_law 548 = .ok (.ifCond .eq 14, 3) := by decide +kernel
theorem dL_law_551 : decode cL_law 551 = .ok (.iload 14, 2) := by decide +kernel
theorem dL_law_553 : decode cL_law 553 = .ok (.iconst 2, 1) := by decide +kernel
theorem dL_law_554 : decode cL_law 554 = .ok (.if_icmp .ge 8, 3) := by decide +kernel
theorem dL_law_557 : decode cL_law 557 = .ok (.iload 13, 2) := by decide +kernel
theorem dL_law_559 : decode cL_law 559 = .ok (.goto 4, 3) := by decide +kernel
theorem dL_law_562 : decode cL_law 562 = .ok (.iconst (-1), 1) := by decide +kernel
theorem dL_law_563 : decode cL_law 563 = .ok (.iastore, 1) := by decide +kernel
theorem dL_law_564 : decode cL_law 564 = .ok (.goto 307, 3) := by decide +kernel
theorem dL_law_567 : decode cL_law 567 = .ok (.iload 9, 2) := by decide +kernel
theorem dL_law_569 : decode cL_law 569 = .ok (.iconst 2, 1) := by decide +kernel
theorem dL_law_570 : decode cL_law 570 = .ok (.if_icmp .ne 166, 3) := by decide +kernel
theorem dL_law_573 : decode cL_law 573 = .ok (.iload 8, 2) := by decide +kernel
theorem dL_law_575 : decode cL_law 575 = .ok (.bipush 9, 2) := by decide +kernel
theorem dL_law_577 : decode cL_law 577 = .ok (.ishr, 1) := by decide +kernel
theorem dL_law_578 : decode cL_law 578 = .ok (.iconst 5, 1) := by decide +kernel
theorem dL_law_579 : decode cL_law 579 = .ok (.invokestatic 94, 3) := by decide +kernel
theorem dL_law_582 : decode cL_law 582 = .ok (.istore 13, 2) := by decide +kernel
theorem dL_law_584 : decode cL_law 584 = .ok (.iconst 1, 1) := by decide +kernel
theorem dL_law_585 : decode cL_law 585 = .ok (.iload 8, 2) := by decide +kernel
theorem dL_law_587 : decode cL_law 587 = .ok (.bipush 11, 2) := by decide +kernel
theorem dL_law_589 : decode cL_law 589 = .ok (.ishr, 1) := by decide +kernel
theorem dL_law_590 : decode cL_law 590 = .ok (.bipush 60, 2) := by decide +kernel
theorem dL_law_592 : decode cL_law 592 = .ok (.invokestatic 94, 3) := by decide +kernel
theorem dL_law_595 : decode cL_law 595 = .ok (.iadd, 1) := by decide +kernel
theorem dL_law_596 : decode cL_law 596 = .ok (.istore 14, 2) := by decide +kernel
theorem dL_law_598 : decode cL_law 598 = .ok (.aload_n 3, 1) := by decide +kernel
theorem dL_law_599 : decode cL_law 599 = .ok (.iload 11, 2) := by decide +kernel
theorem dL_law_601 : decode cL_law 601 = .ok (.iconst 2, 1) := by decide +kernel
theorem dL_law_602 : decode cL_law 602 = .ok (.iadd, 1) := by decide +kernel
theorem dL_law_603 : decode cL_law 603 = .ok (.iaload, 1) := by decide +kernel
theorem dL_law_604 : decode cL_law 604 = .ok (.iload 14, 2) := by decide +kernel
theorem dL_law_606 : decode cL_law 606 = .ok (.if_icmp .lt 7, 3) := by decide +kernel
theorem dL_law_609 : decode cL_law 609 = .ok (.iconst 1, 1) := by decide +kernel
theorem dL_law_610 : decode cL_law 610 = .ok (.goto 4, 3) := by decide +kernel
theorem dL_law_613 : decode cL_law 613 = .ok (.iconst 0, 1) := by decide +kernel
theorem dL_law_614 : decode cL_law 614 = .ok (.istore 15, 2) := by decide +kernel
theorem dL_law_616 : decode cL_law 616 = .ok (.iload 10, 2) := by decide +kernel
theorem dL_law_618 : decode cL_law 618 = .ok (.iload 13, 2) := by decide +kernel
theorem dL_law_620 : decode cL_law 620 = .ok (.if_icmp .eq 113, 3) := by decide +kernel
theorem dL_law_623 : decode cL_law 623 = .ok (.aload_n 2, 1) := by decide +kernel
theorem dL_law_624 : decode cL_law 624 = .ok (.bipush 7, 2) := by decide +kernel
theorem dL_law_626 : decode cL_law 626 = .ok (.iaload, 1) := by decide +kernel
theorem dL_law_627 : decode cL_law 627 = .ok (.bipush 8, 2) := by decide +kernel
theorem dL_law_629 : decode cL_law 629 = .ok (.if_icmp .ge 104, 3) := by decide +kernel
theorem dL_law_632 : decode cL_law 632 = .ok (.aload_n 1, 1) := by decide +kernel
theorem dL_law_633 : decode cL_law 633 = .ok (.iload 10, 2) := by decide +kernel
theorem dL_law_635 : decode cL_law 635 = .ok (.iload 13, 2) := by decide +kernel
theorem dL_law_637 : decode cL_law 637 = .ok (.iload 14, 2) := by decide +kernel
theorem dL_law_639 : decode cL_law 639 = .ok (.invokevirtual 111, 3) := by decide +kernel
theorem dL_law_642 : decode cL_law 642 = .ok (.iload 15, 2) := by decide +kernel
theorem dL_law_644 : decode cL_law 644 = .ok (.ifCond .eq 10, 3) := by decide +kernel
theorem dL_law_647 : decode cL_law 647 = .ok (.aload_n 2, 1) := by decide +kernel
theorem dL_law_648 : decode cL_law 648 = .ok (.bipush 7, 2) := by decide +kernel
theorem dL_law_650 : decode cL_law 650 = .ok (.iaload, 1) := by decide +kernel
theorem dL_law_651 : decode cL_law 651 = .ok (.goto 5, 3) := by decide +kernel
theorem dL_law_654 : decode cL_law 654 = .ok (.ldc 109, 2) := by decide +kernel
theorem dL_law_656 : decode cL_law 656 = .ok (.if_icmp .eq 5, 3) := by decide +kernel
theorem dL_law_659 : decode cL_law 659 = .ok (.iconst 0, 1) := by decide +kernel
theorem dL_law_660 : decode cL_law 660 = .ok (.ireturn, 1) := by decide +kernel
theorem dL_law_661 : decode cL_law 661 = .ok (.iload 15, 2) := by decide +kernel
theorem dL_law_663 : decode cL_law 663 = .ok (.ifCond .eq 70, 3) := by decide +kernel
theorem dL_law_666 : decode cL_law 666 = .ok (.aload 5, 2) := by decide +kernel
theorem dL_law_668 : decode cL_law 668 = .ok (.iconst 3, 1) := by decide +kernel
theorem dL_law_669 : decode cL_law 669 = .ok (.aload_n 2, 1) := by decide +kernel
theorem dL_law_670 : decode cL_law 670 = .ok (.bipush 7, 2) := by decide +kernel
theorem dL_law_672 : decode cL_law 672 = .ok (.iaload, 1) := by decide +kernel
theorem dL_law_673 : decode cL_law 673 = .ok (.imul, 1) := by decide +kernel
theorem dL_law_674 : decode cL_law 674 = .ok (.iload 10, 2) := by decide +kernel
theorem dL_law_676 : decode cL_law 676 = .ok (.iastore, 1) := by decide +kernel
theorem dL_law_677 : decode cL_law 677 = .ok (.aload 5, 2) := by decide +kernel
theorem dL_law_679 : decode cL_law 679 = .ok (.iconst 3, 1) := by decide +kernel
theorem dL_law_680 : decode cL_law 680 = .ok (.aload_n 2, 1) := by decide +kernel
theorem dL_law_681 : decode cL_law 681 = .ok (.bipush 7, 2) := by decide +kernel
theorem dL_law_683 : decode cL_law 683 = .ok (.iaload, 1) := by decide +kernel
theorem dL_law_684 : decode cL_law 684 = .ok (.imul, 1) := by decide +kernel
theorem dL_law_685 : decode cL_law 685 = .ok (.iconst 1, 1) := by decide +kernel
theorem dL_law_686 : decode cL_law 686 = .ok (.iadd, 1) := by decide +kernel
theorem dL_law_687 : decode cL_law 687 = .ok (.iload 13, 2) := by decide +kernel
theorem dL_law_689 : decode cL_law 689 = .ok (.iastore, 1) := by decide +kernel
theorem dL_law_690 : decode cL_law 690 = .ok (.aload 5, 2) := by decide +kernel
theorem dL_law_692 : decode cL_law 692 = .ok (.iconst 3, 1) := by decide +kernel
theorem dL_law_693 : decode cL_law 693 = .ok (.aload_n 2, 1) := by decide +kernel
theorem dL_law_694 : decode cL_law 694 = .ok (.bipush 7, 2) := by decide +kernel
theorem dL_law_696 : decode cL_law 696 = .ok (.dup2, 1) := by decide +kernel
theorem dL_law_697 : decode cL_law 697 = .ok (.iaload, 1) := by decide +kernel
theorem dL_law_698 : decode cL_law 698 = .ok (.dup_x2, 1) := by decide +kernel
theorem dL_law_699 : decode cL_law 699 = .ok (.iconst 1, 1) := by decide +kernel
theorem dL_law_700 : decode cL_law 700 = .ok (.iadd, 1) := by decide +kernel
theorem dL_law_701 : decode cL_law 701 = .ok (.iastore, 1) := by decide +kernel
theorem dL_law_702 : decode cL_law 702 = .ok (.imul, 1) := by decide +kernel
theorem dL_law_703 : decode cL_law 703 = .ok (.iconst 2, 1) := by decide +kernel
theorem dL_law_704 : decode cL_law 704 = .ok (.iadd, 1) := by decide +kernel
theorem dL_law_705 : decode cL_law 705 = .ok (.iload 14, 2) := by decide +kernel
theorem dL_law_707 : decode cL_law 707 = .ok (.iastore, 1) := by decide +kernel
theorem dL_law_708 : decode cL_law 708 = .ok (.aload_n 3, 1) := by decide +kernel
theorem dL_law_709 : decode cL_law 709 = .ok (.iload 11, 2) := by decide +kernel
theorem dL_law_711 : decode cL_law 711 = .ok (.iconst 2, 1) := by decide +kernel
theorem dL_law_712 : decode cL_law 712 = .ok (.iadd, 1) := by decide +kernel
theorem dL_law_713 : decode cL_law 713 = .ok (.dup2, 1) := by decide +kernel
theorem dL_law_714 : decode cL_law 714 = .ok (.iaload, 1) := by decide +kernel
theorem dL_law_715 : decode cL_law 715 = .ok (.iload 14, 2) := by decide +kernel
theorem dL_law_717 : decode cL_law 717 = .ok (.isub, 1) := by decide +kernel
theorem dL_law_718 : decode cL_law 718 = .ok (.iastore, 1) := by decide +kernel
theorem dL_law_719 : decode cL_law 719 = .ok (.aload_n 3, 1) := by decide +kernel
theorem dL_law_720 : decode cL_law 720 = .ok (.bipush 10, 2) := by decide +kernel
theorem dL_law_722 : decode cL_law 722 = .ok (.iload 13, 2) := by decide +kernel
theorem dL_law_724 : decode cL_law 724 = .ok (.imul, 1) := by decide +kernel
theorem dL_law_725 : decode cL_law 725 = .ok (.iconst 2, 1) := by decide +kernel
theorem dL_law_726 : decode cL_law 726 = .ok (.iadd, 1) := by decide +kernel
theorem dL_law_727 : decode cL_law 727 = .ok (.dup2, 1) := by decide +kernel
theorem dL_law_728 : decode cL_law 728 = .ok (.iaload, 1) := by decide +kernel
theorem dL_law_729 : decode cL_law 729 = .ok (.iload 14, 2) := by decide +kernel
theorem dL_law_731 : decode cL_law 731 = .ok (.iadd, 1) := by decide +kernel
theorem dL_law_732 : decode cL_law 732 = .ok (.iastore, 1) := by decide +kernel
theorem dL_law_733 : decode cL_law 733 = .ok (.goto 138, 3) := by decide +kernel
theorem dL_law_736 : decode cL_law 736 = .ok (.iload 9, 2) := by decide +kernel
theorem dL_law_738 : decode cL_law 738 = .ok (.iconst 3, 1) := by decide +kernel
theorem dL_law_739 : decode cL_law 739 = .ok (.if_icmp .ne 50, 3) := by decide +kernel
theorem dL_law_742 : decode cL_law 742 = .ok (.iconst 1, 1) := by decide +kernel
theorem dL_law_743 : decode cL_law 743 = .ok (.iload 8, 2) := by decide +kernel
theorem dL_law_745 : decode cL_law 745 = .ok (.bipush 9, 2) := by decide +kernel
theorem dL_law_747 : decode cL_law 747 = .ok (.ishr, 1) := by decide +kernel
theorem dL_law_748 : decode cL_law 748 = .ok (.bipush 100, 2) := by decide +kernel
theorem dL_law_750 : decode cL_law 750 = .ok (.invokestatic 94, 3) := by decide +kernel
theorem dL_law_753 : decode cL_law 753 = .ok (.iadd, 1) := by decide +kernel
theorem dL_law_754 : decode cL_law 754 = .ok (.istore 13, 2) := by decide +kernel
theorem dL_law_756 : decode cL_law 756 = .ok (.aload_n 3, 1) := by decide +kernel
theorem dL_law_757 : decode cL_law 757 = .ok (.iload 11, 2) := by decide +kernel
theorem dL_law_759 : decode cL_law 759 = .ok (.iconst 2, 1) := by decide +kernel
theorem dL_law_760 : decode cL_law 760 = .ok (.iadd, 1) := by decide +kernel
theorem dL_law_761 : decode cL_law 761 = .ok (.dup2, 1) := by decide +kernel
theorem dL_law_762 : decode cL_law 762 = .ok (.iaload, 1) := by decide +kernel
theorem dL_law_763 : decode cL_law 763 = .ok (.iload 13, 2) := by decide +kernel
theorem dL_law_765 : decode cL_law 765 = .ok (.iadd, 1) := by decide +kernel
theorem dL_law_766 : decode cL_law 766 = .ok (.iastore, 1) := by decide +kernel
theorem dL_law_767 : decode cL_law 767 = .ok (.aload_n 1, 1) := by decide +kernel
theorem dL_law_768 : decode cL_law 768 = .ok (.iload 10, 2) := by decide +kernel
theorem dL_law_770 : decode cL_law 770 = .ok (.iload 13, 2) := by decide +kernel
theorem dL_law_772 : decode cL_law 772 = .ok (.invokevirtual 114, 3) := by decide +kernel
theorem dL_law_775 : decode cL_law 775 = .ok (.aload_n 3, 1) := by decide +kernel
theorem dL_law_776 : decode cL_law 776 = .ok (.iload 11, 2) := by decide +kernel
theorem dL_law_778 : decode cL_law 778 = .ok (.iconst 2, 1) := by decide +kernel
theorem dL_law_779 : decode cL_law 779 = .ok (.iadd, 1) := by decide +kernel
theorem dL_law_780 : decode cL_law 780 = .ok (.iaload, 1) := by decide +kernel
theorem dL_law_781 : decode cL_law 781 = .ok (.if_icmp .eq 5, 3) := by decide +kernel
theorem dL_law_784 : decode cL_law 784 = .ok (.iconst 0, 1) := by decide +kernel
theorem dL_law_785 : decode cL_law 785 = .ok (.ireturn, 1) := by decide +kernel
theorem dL_law_786 : decode cL_law 786 = .ok (.goto 85, 3) := by decide +kernel
theorem dL_law_789 : decode cL_law 789 = .ok (.iconst 0, 1) := by decide +kernel
theorem dL_law_790 : decode cL_law 790 = .ok (.istore 13, 2) := by decide +kernel
theorem dL_law_792 : decode cL_law 792 = .ok (.iload 13, 2) := by decide +kernel
theorem dL_law_794 : decode cL_law 794 = .ok (.iconst 3, 1) := by decide +kernel
theorem dL_law_795 : decode cL_law 795 = .ok (.if_icmp .ge 76, 3) := by decide +kernel
theorem dL_law_798 : decode cL_law 798 = .ok (.iload 8, 2) := by decide +kernel
theorem dL_law_800 : decode cL_law 800 = .ok (.bipush 9, 2) := by decide +kernel
theorem dL_law_802 : decode cL_law 802 = .ok (.iload 13, 2) := by decide +kernel
theorem dL_law_804 : decode cL_law 804 = .ok (.iadd, 1) := by decide +kernel
theorem dL_law_805 : decode cL_law 805 = .ok (.ishr, 1) := by decide +kernel
theorem dL_law_806 : decode cL_law 806 = .ok (.iconst 2, 1) := by decide +kernel
theorem dL_law_807 : decode cL_law 807 = .ok (.invokestatic 94, 3) := by decide +kernel
theorem dL_law_810 : decode cL_law 810 = .ok (.istore 14, 2) := by decide +kernel
theorem dL_law_812 : decode cL_law 812 = .ok (.iload 12, 2) := by decide +kernel
theorem dL_law_814 : decode cL_law 814 = .ok (.iload 14, 2) := by decide +kernel
theorem dL_law_816 : decode cL_law 816 = .ok (.aload_n 2, 1) := by decide +kernel
theorem dL_law_817 : decode cL_law 817 = .ok (.aload_n 3, 1) := by decide +kernel
theorem dL_law_818 : decode cL_law 818 = .ok (.aload 4, 2) := by decide +kernel
theorem dL_law_820 : decode cL_law 820 = .ok (.aload 5, 2) := by decide +kernel
theorem dL_law_822 : decode cL_law 822 = .ok (.aload 6, 2) := by decide +kernel
theorem dL_law_824 : decode cL_law 824 = .ok (.invokestatic 74, 3) := by decide +kernel
theorem dL_law_827 : decode cL_law 827 = .ok (.istore 15, 2) := by decide +kernel
theorem dL_law_829 : decode cL_law 829 = .ok (.aload_n 1, 1) := by decide +kernel
theorem dL_law_830 : decode cL_law 830 = .ok (.iload 12, 2) := by decide +kernel
theorem dL_law_832 : decode cL_law 832 = .ok (.iload 14, 2) := by decide +kernel
theorem dL_law_834 : decode cL_law 834 = .ok (.invokevirtual 117, 3) := by decide +kernel
theorem dL_law_837 : decode cL_law 837 = .ok (.iload 15, 2) := by decide +kernel
theorem dL_law_839 : decode cL_law 839 = .ok (.if_icmp .ne 24, 3) := by decide +kernel
theorem dL_law_842 : decode cL_law 842 = .ok (.aload_n 1, 1) := by decide +kernel
theorem dL_law_843 : decode cL_law 843 = .ok (.iload 12, 2) := by decide +kernel
theorem dL_law_845 : decode cL_law 845 = .ok (.iload 13, 2) := by decide +kernel
theorem dL_law_847 : decode cL_law 847 = .ok (.iadd, 1) := by decide +kernel
theorem dL_law_848 : decode cL_law 848 = .ok (.bipush 64, 2) := by decide +kernel
theorem dL_law_850 : decode cL_law 850 = .ok (.irem, 1) := by decide +kernel
theorem dL_law_851 : decode cL_law 851 = .ok (.aload_n 2, 1) := by decide +kernel
theorem dL_law_852 : decode cL_law 852 = .ok (.aload_n 3, 1) := by decide +kernel
theorem dL_law_853 : decode cL_law 853 = .ok (.aload 4, 2) := by decide +kernel
theorem dL_law_855 : decode cL_law 855 = .ok (.aload 5, 2) := by decide +kernel
theorem dL_law_857 : decode cL_law 857 = .ok (.invokestatic 119, 3) := by decide +kernel
theorem dL_law_860 : decode cL_law 860 = .ok (.ifCond .ne 5, 3) := by decide +kernel
theorem dL_law_863 : decode cL_law 863 = .ok (.iconst 0, 1) := by decide +kernel
theorem dL_law_864 : decode cL_law 864 = .ok (.ireturn, 1) := by decide +kernel
theorem dL_law_865 : decode cL_law 865 = .ok (.iinc 13 1, 3) := by decide +kernel
theorem dL_law_868 : decode cL_law 868 = .ok (.goto (-76), 3) := by decide +kernel
theorem dL_law_871 : decode cL_law 871 = .ok (.aload_n 1, 1) := by decide +kernel
theorem dL_law_872 : decode cL_law 872 = .ok (.iload 12, 2) := by decide +kernel
theorem dL_law_874 : decode cL_law 874 = .ok (.aload_n 2, 1) := by decide +kernel
theorem dL_law_875 : decode cL_law 875 = .ok (.aload_n 3, 1) := by decide +kernel
theorem dL_law_876 : decode cL_law 876 = .ok (.aload 4, 2) := by decide +kernel
theorem dL_law_878 : decode cL_law 878 = .ok (.aload 5, 2) := by decide +kernel
theorem dL_law_880 : decode cL_law 880 = .ok (.invokestatic 119, 3) := by decide +kernel
theorem dL_law_883 : decode cL_law 883 = .ok (.ifCond .eq 33, 3) := by decide +kernel
theorem dL_law_886 : decode cL_law 886 = .ok (.aload_n 1, 1) := by decide +kernel
theorem dL_law_887 : decode cL_law 887 = .ok (.iload 10, 2) := by decide +kernel
theorem dL_law_889 : decode cL_law 889 = .ok (.iload 12, 2) := by decide +kernel
theorem dL_law_891 : decode cL_law 891 = .ok (.iconst 1, 1) := by decide +kernel
theorem dL_law_892 : decode cL_law 892 = .ok (.iload 8, 2) := by decide +kernel
theorem dL_law_894 : decode cL_law 894 = .ok (.bipush 13, 2) := by decide +kernel
theorem dL_law_896 : decode cL_law 896 = .ok (.ishr, 1) := by decide +kernel
theorem dL_law_897 : decode cL_law 897 = .ok (.iconst 4, 1) := by decide +kernel
theorem dL_law_898 : decode cL_law 898 = .ok (.invokestatic 94, 3) := by decide +kernel
theorem dL_law_901 : decode cL_law 901 = .ok (.iadd, 1) := by decide +kernel
theorem dL_law_902 : decode cL_law 902 = .ok (.aload_n 2, 1) := by decide +kernel
theorem dL_law_903 : decode cL_law 903 = .ok (.aload_n 3, 1) := by decide +kernel
theorem dL_law_904 : decode cL_law 904 = .ok (.aload 4, 2) := by decide +kernel
theorem dL_law_906 : decode cL_law 906 = .ok (.aload 5, 2) := by decide +kernel
theorem dL_law_908 : decode cL_law 908 = .ok (.aload 6, 2) := by decide +kernel
theorem dL_law_910 : decode cL_law 910 = .ok (.invokestatic 123, 3) := by decide +kernel
theorem dL_law_913 : decode cL_law 913 = .ok (.ifCond .ne 5, 3) := by decide +kernel
theorem dL_law_916 : decode cL_law 916 = .ok (.iconst 0, 1) := by decide +kernel
theorem dL_law_917 : decode cL_law 917 = .ok (.ireturn, 1) := by decide +kernel
theorem dL_law_918 : decode cL_law 918 = .ok (.iinc 7 1, 3) := by decide +kernel
theorem dL_law_921 : decode cL_law 921 = .ok (.goto (-637), 3) := by decide +kernel
theorem dL_law_924 : decode cL_law 924 = .ok (.iconst 1, 1) := by decide +kernel
theorem dL_law_925 : decode cL_law 925 = .ok (.ireturn, 1) := by decide +kernel
end
section
/-! the rules of fields and of calls, a rule a link of the constant pools -/
theorem enc_0 (X : fX) (row : Nat → Int32) (e : Int64) : enc X 0 row e = .inr (5, [ra X (iS 0), ra X (iS 1), ra X 1, ra X 3]) := rfl
theorem enc_1 (X : fX) (row : Nat → Int32) (e : Int64) : enc X 1 row e = .inr (2, [ra X 2, .int (row 1), .int (row 2)]) := rfl
theorem enc_2 (X : fX) (row : Nat → Int32) (e : Int64) : enc X 2 row e = .inl (X.2.2.1 4, 4, .inr (.inr (.inr (.inr (fun j => some (X.2.1 (iS (2 + j)))))))) := rfl
theorem enc_3 (X : fX) (row : Nat → Int32) (e : Int64) : enc X 3 row e = .inr (4, [ra X 4, ra X 5, .int (row 2), .int (row 3), .int (row 4), .int (row 5), .int (row 6), .int (row 7)]) := rfl
theorem enc_4 (X : fX) (row : Nat → Int32) (e : Int64) : enc X 4 row e = .inl (X.2.2.1 1, 80, .inl row) := rfl
theorem enc_5 (X : fX) (row : Nat → Int32) (e : Int64) : enc X 5 row e = .inl (X.2.2.1 0, 2, .inl row) := rfl
theorem enc_150 (X : fX) (row : Nat → Int32) (e : Int64) : enc X 150 row e = .inl (X.2.2.1 0, 8, .inl row) := rfl
theorem enc_151 (X : fX) (row : Nat → Int32) (e : Int64) : enc X 151 row e = .inl (X.2.2.1 0, 50, .inl row) := rfl
theorem enc_152 (X : fX) (row : Nat → Int32) (e : Int64) : enc X 152 row e = .inl (X.2.2.1 0, 40, .inl row) := rfl
theorem enc_153 (X : fX) (row : Nat → Int32) (e : Int64) : enc X 153 row e = .inl (X.2.2.1 0, 24, .inl row) := rfl
theorem enc_154 (X : fX) (row : Nat → Int32) (e : Int64) : enc X 154 row e = .inl (X.2.2.1 0, 15, .inl row) := rfl
theorem enc_155 (X : fX) (row : Nat → Int32) (e : Int64) : enc X 155 row e = .inl (X.2.2.1 0, 8, .inl row) := rfl
theorem enc_156 (X : fX) (row : Nat → Int32) (e : Int64) : enc X 156 row e = .inl (X.2.2.1 0, 50, .inl row) := rfl
theorem enc_157 (X : fX) (row : Nat → Int32) (e : Int64) : enc X 157 row e = .inl (X.2.2.1 0, 40, .inl row) := rfl
theorem enc_158 (X : fX) (row : Nat → Int32) (e : Int64) : enc X 158 row e = .inl (X.2.2.1 0, 24, .inl row) := rfl
theorem gd_w {w : Cond} (h : w ∈ lw_gd) : w ∈ lw_gd ∧ ((w.onTables && w.keeps) = true ∨ ∃ ty, w = .arrayClass ty) := ⟨h, good_of_word (List.mem_filter.mp h).2⟩
theorem gd_T {y : MethodName} {cc : ByteArray} {mL : Nat} {ret : Option FieldType} (h5 : Cond.code y cc mL ret ∈ lw_gd) : GoodIn lw_gd (fT y cc mL ret) := fun w hw => by
  rcases List.mem_cons.mp hw with rfl | hw
  · exact gd_w h5
  · exact gd_w hw
theorem gd_V {own C : String} {idx mL : Nat} {y : MethodName} {cc : ByteArray} {ret : Option FieldType} (h1 : Cond.methodLink own idx y ∈ lw_gd) (h2 : Cond.instanceMethod y ∈ lw_gd) (h3 : Cond.selects C y y ∈ lw_gd) (h4 : Cond.initialized C ∈ lw_gd) (h5 : Cond.code y cc mL ret ∈ lw_gd) : GoodIn lw_gd (wsV own idx C y (fT y cc mL ret)) := fun w hw => by
  rcases List.mem_append.mp hw with hw | hw
  · simp only [List.mem_cons, List.not_mem_nil, or_false] at hw
    rcases hw with rfl | rfl | rfl | rfl
    · exact gd_w h1
    · exact gd_w h2
    · exact gd_w h3
    · exact gd_w h4
  · exact gd_T h5 w hw
section CALLS
variable {l : Launch} {x : fC} {X : fX} {σ : fM} {L : List (Nat × Value)} {st : List Value} {pc : Nat} {cc : ByteArray} {own : String} {d : Nat}
theorem fA_in (h : Ok l x X cc own d) : ∀ q, fA X q → xA x q := fun q ⟨k, hk, e⟩ => by rw [e]; exact h.hA.2 k hk
theorem g_start (h : Ok l x X cc own d) {H : Heap} {locs : List Loc} (hP : va_P X.1 vwCl (wl X σ) H) (hS : va_S (xA x) (xs x).heap H locs) (U : State) (hU : U.heap = H) (hW : (xs x).WarmedH U.vm) : fI X σ U := by
  refine ⟨by rw [hU]; exact hP, va_K.moved hW.alike h.hK, ⟨h.hA.1, fun k hk => ⟨k, hk, rfl⟩⟩, ?_⟩
  rw [hU]
  exact ((h.hZ.kept hS.2.1).narrow (fA_in h)).moved hW.alike
theorem g_cont (h : Ok l x X cc own d) {H : Heap} {locs : List Loc} {ls : Array Slot} (hS : va_S (xA x) (xs x).heap H locs) (hl : lv_has ls (xL x) L) {v : Option Value} {σ' : fM} {rest : List Value} {a : Array Value}
    (hr : va_Run (xp x) (xl x) (xe x) (xR x) (xs x) (xm x) (xa x) (xb x) (xM x) (xc x) H locs (xk x) (xn x) 0 0 (F0 (xm x) pc ls st) rest (fQc X v σ' a) (fA X)) (kk : G x X σ' L (v.toList ++ rest) (pc + 3)) :
    W (xp x) (xl x) (xe x) (xR x) (xs x) (xm x) (xa x) (xb x) (xM x) (xc x) H locs (xk x) (xn x) (xQ x) (F0 (xm x) pc ls st) := by
  intro T hT X0
  obtain ⟨v0, st₀, t, T', L0, h0, X', hL, e1, e2, ⟨⟨hv, hp⟩, hz, hk⟩, st⟩ := hr T hT X0
  cases hv
  rw [h0] at hz hk
  have hA : ∀ q, q < H.size → fA X q → xA x q := fun q _ hq => fA_in h q hq
  obtain ⟨t2, a1, b1⟩ := kk T'.heap (locs ++ L0) ls (by rw [e1]; exact hp) ⟨Nat.le_trans hS.1 (by rw [e1]; exact hz), fun q h1 h2 => by rw [e1, hk q (Nat.lt_of_lt_of_le h1 hS.1) (fun z => h2 (hA q (Nat.lt_of_lt_of_le h1 hS.1) z))]; exact hS.2.1 q h1 h2, fun q hq => by
      rcases List.mem_append.mp hq with hh | hh
      · exact hS.2.2 q hh
      · exact fA_in h _ (hL q hh)⟩ hl T' rfl X'
  exact ⟨t2, st t2 a1, b1⟩
theorem g_room (h : Ok l x X cc own d) {d' mL : Nat} (hdd : d' < d) (hmL : mL ≤ 17) : (fR d').frames + 1 ≤ (xR x).frames ∧ 8 + (mL + 11) + (fR d').locals ≤ (xR x).locals := by
  have := h.hF
  show d' + 1 ≤ _ ∧ 8 + (mL + 11) + 36 * d' ≤ _
  omega
theorem g_callV (h : Ok l x X cc own d) {y : MethodName} {cy : ByteArray} {mL idx d' n k ci : Nat} {ret : Option FieldType} {av : List Value} {v : Option Value} {σ' : fM} {rest : List Value} {C : String} {q : vw_C} {fs : List Value}
    (hG : GoodIn lw_gd (wsV own idx C y (fT y cy mL ret))) (hy : y.cls = C ∧ y.cls ≠ "java/lang/invoke/MethodHandle" ∧ y.cls ≠ "java/lang/invoke/VarHandle" ∧ (parseMethodDescriptor y.desc).map (fun d => d.parameters.length) = some n) (hcl : vwCl[ci]? = some q) (hq : q.1 = C) (hk : k < nX X) (he : enc X k (σ.1 k) (σ.2 k) = .inr (ci, fs)) (hmL : mL ≤ 17) (hn : av.length = n)
    (hC : Ct l X y cy mL ret d' (ra X k :: av) σ v σ') (hd : decode cc pc = .ok (.invokevirtual idx, 3)) (hst : st = av.reverse ++ ra X k :: rest) (hcat : (rest.map fun v => v.category).sum ≤ 8) (hdd : d' < d) (kk : G x X σ' L (v.toList ++ rest) (pc + 3)) : G x X σ L st pc := fun H locs ls hP hS hl => by
  subst hq
  refine g_cont h hS hl (va_runV (As := av) (rest := rest) (b := X.2.1 k) ⟨h.hx, h.hb, h.hml, h.ho, h.hts⟩ (by have hC' := hC; rw [← h.1.1] at hC'; exact hC') (cwV n h.hts hG rfl rfl rfl hy (g_room h hdd hmL)) ⟨fPc_blind _ _ _, va_recv (q0 := k) h.hK hP hcl (by rw [wl_get hk, he]), fun U hU hW => ⟨rfl, g_start h hP hS U hU hW⟩⟩ rfl hn hl.1 hst (lv_room hcat) hd h.hC) kk
theorem g_callS (h : Ok l x X cc own d) {y : MethodName} {cy : ByteArray} {mL idx d' n : Nat} {ret : Option FieldType} {av : List Value} {v : Option Value} {σ' : fM} {rest : List Value}
    (hG : GoodIn lw_gd (fT y cy mL ret)) (hl1 : Cond.methodLink own idx y ∈ lw_gd) (hs1 : Cond.static y ∈ lw_gd) (hi1 : Cond.initialized y.cls ∈ lw_gd) (hy : y.cls ≠ "java/lang/invoke/MethodHandle" ∧ y.cls ≠ "java/lang/invoke/VarHandle" ∧ (parseMethodDescriptor y.desc).map (fun d => d.parameters.length) = some n) (hmL : mL ≤ 17) (hn : av.length = n)
    (hC : Ct l X y cy mL ret d' av σ v σ') (hd : decode cc pc = .ok (.invokestatic idx, 3)) (hst : st = av.reverse ++ rest) (hcat : (rest.map fun v => v.category).sum ≤ 8) (hdd : d' < d) (kk : G x X σ' L (v.toList ++ rest) (pc + 3)) : G x X σ L st pc := fun H locs ls hP hS hl => by
  refine g_cont h hS hl (va_runS (As := av) (rest := rest) ⟨h.hx, h.hb, h.hml, h.ho, h.hts⟩ (by have hC' := hC; rw [← h.1.1] at hC'; exact hC') ⟨callB_of n h.hts hG rfl rfl rfl (h.hts _ hi1) (h.hts _ hl1) hy (g_room h hdd hmL), h.hts _ hs1⟩ ⟨fPc_blind _ _ _, fun U hU hW => ⟨rfl, g_start h hP hS U hU hW⟩⟩ rfl hn hl.1 hst (lv_room hcat) hd h.hC) kk
/-- a static method of a nest mate -/
theorem g_callSN (h : Ok l x X cc own d) {y : MethodName} {cy : ByteArray} {mL idx d' n : Nat} {ret : Option FieldType} {av : List Value} {v : Option Value} {σ' : fM} {rest : List Value} {host : String}
    (hG : GoodIn lw_gd (fT y cy mL ret)) (hl1 : va_Nw (.methodLinkNest own idx y host) (xs x)) (hs1 : Cond.static y ∈ lw_gd) (hi1 : Cond.initialized y.cls ∈ lw_gd) (hy : y.cls ≠ "java/lang/invoke/MethodHandle" ∧ y.cls ≠ "java/lang/invoke/VarHandle" ∧ (parseMethodDescriptor y.desc).map (fun d => d.parameters.length) = some n) (hmL : mL ≤ 17) (hn : av.length = n)
    (hC : Ct l X y cy mL ret d' av σ v σ') (hd : decode cc pc = .ok (.invokestatic idx, 3)) (hst : st = av.reverse ++ rest) (hcat : (rest.map fun v => v.category).sum ≤ 8) (hdd : d' < d) (kk : G x X σ' L (v.toList ++ rest) (pc + 3)) : G x X σ L st pc := fun H locs ls hP hS hl => by
  refine g_cont h hS hl (va_runSN (As := av) (rest := rest) (Ts := lw_gd) ⟨h.hx, h.hb, h.hml, h.ho, h.hts⟩ (by have hC' := hC; rw [← h.1.1] at hC'; exact hC') ⟨va_cnB n h.hts hG rfl rfl rfl hl1 (h.hts _ hi1) hy (g_room h hdd hmL), h.hts _ hs1, trivial⟩ ⟨fPc_blind _ _ _, fun U hU hW => ⟨rfl, g_start h hP hS U hU hW⟩⟩ rfl hn hl.1 hst (lv_room hcat) hd h.hC) kk

theorem gf1_15 (h : Ok l x X cc RX1 d) {s i : Nat} (hs : s < 6) (hi : i < 6) (hd : decode cc pc = .ok (.getfield 15, 3)) (k : G x X σ L (.int (σ.1 (iO s i) 0) :: st) (pc + 3)) : G x X σ L (ra X (iO s i) :: st) pc := fun H locs ls hP hS hl => va_get (D := X.1) (ci := 1) (C := RX1) (T := TX1) (N := 12) h.hx h.hb h.hts lw_x1 h.ho h.hK hP (iO s i) (by rw [wl_get (iO_lt hs hi), enc_O X hs hi]) rfl 0 (by decide) (h.hts (.fieldLink RX1 15 "BranchBets$Oracle" "kind" "I") (lw_in 30 (by decide +kernel) rfl)) (fun _ h9 => h9) rfl hd (k H locs ls hP hS hl)
theorem gp1_15 (h : Ok l x X cc RX1 d) {s i : Nat} (hs : s < 6) (hi : i < 6) {v : Int32} (hd : decode cc pc = .ok (.putfield 15, 3)) (k : G x X (pu σ (iO s i) 0 v) L st (pc + 3)) : G x X σ L (.int v :: ra X (iO s i) :: st) pc := fun H locs ls hP hS hl => va_put (D := X.1) (ci := 1) (v := .int v) (ty := .int) (C := RX1) (T := TX1) (N := 12) h.hx h.hb h.hts lw_x1 tyX1 tyX1_ok nmX1 h.ho h.hK hP (wl_D h.hA σ) hS (iO s i) (by rw [wl_get (iO_lt hs hi), enc_O X hs hi]) rfl 0 (by decide) (h.hts (.fieldLink RX1 15 "BranchBets$Oracle" "kind" "I") (lw_in 30 (by decide +kernel) rfl)) (fun _ h9 => h9) rfl (by decide +kernel) rfl rfl (Nat.le_of_ble_eq_true rfl) hd (fun H1 locs1 hP1 hD1 hS1 => k H1 locs1 ls (by rw [wl_set (σ' := pu σ (iO s i) 0 v) (by rw [enc_O X hs hi]; simp [pu]) (fun k' hne => pu_ne k' hne) (fun _ _ => rfl)] at hP1; exact hP1) hS1 hl)
theorem gf5_114 (h : Ok l x X cc RX5 d) {s i : Nat} (hs : s < 6) (hi : i < 6) (hd : decode cc pc = .ok (.getfield 114, 3)) (k : G x X σ L (.int (σ.1 (iO s i) 0) :: st) (pc + 3)) : G x X σ L (ra X (iO s i) :: st) pc := fun H locs ls hP hS hl => va_get (D := X.1) (ci := 1) (C := RX1) (T := TX1) (N := 12) h.hx h.hb h.hts lw_x1 h.ho h.hK hP (iO s i) (by rw [wl_get (iO_lt hs hi), enc_O X hs hi]) rfl 0 (by decide) (h.hts (.fieldLink RX5 114 "BranchBets$Oracle" "kind" "I") (lw_in 31 (by decide +kernel) rfl)) (fun _ h9 => h9) rfl hd (k H locs ls hP hS hl)
theorem gp5_114 (h : Ok l x X cc RX5 d) {s i : Nat} (hs : s < 6) (hi : i < 6) {v : Int32} (hd : decode cc pc = .ok (.putfield 114, 3)) (k : G x X (pu σ (iO s i) 0 v) L st (pc + 3)) : G x X σ L (.int v :: ra X (iO s i) :: st) pc := fun H locs ls hP hS hl => va_put (D := X.1) (ci := 1) (v := .int v) (ty := .int) (C := RX1) (T := TX1) (N := 12) h.hx h.hb h.hts lw_x1 tyX1 tyX1_ok nmX1 h.ho h.hK hP (wl_D h.hA σ) hS (iO s i) (by rw [wl_get (iO_lt hs hi), enc_O X hs hi]) rfl 0 (by decide) (h.hts (.fieldLink RX5 114 "BranchBets$Oracle" "kind" "I") (lw_in 31 (by decide +kernel) rfl)) (fun _ h9 => h9) rfl (by decide +kernel) rfl rfl (Nat.le_of_ble_eq_true rfl) hd (fun H1 locs1 hP1 hD1 hS1 => k H1 locs1 ls (by rw [wl_set (σ' := pu σ (iO s i) 0 v) (by rw [enc_O X hs hi]; simp [pu]) (fun k' hne => pu_ne k' hne) (fun _ _ => rfl)] at hP1; exact hP1) hS1 hl)
theorem gf3_104 (h : Ok l x X cc RX3 d) {s i : Nat} (hs : s < 6) (hi : i < 6) (hd : decode cc pc = .ok (.getfield 104, 3)) (k : G x X σ L (.int (σ.1 (iO s i) 0) :: st) (pc + 3)) : G x X σ L (ra X (iO s i) :: st) pc := fun H locs ls hP hS hl => va_get (D := X.1) (ci := 1) (C := RX1) (T := TX1) (N := 12) h.hx h.hb h.hts lw_x1 h.ho h.hK hP (iO s i) (by rw [wl_get (iO_lt hs hi), enc_O X hs hi]) rfl 0 (by decide) (h.hts (.fieldLink RX3 104 "BranchBets$Oracle" "kind" "I") (lw_in 32 (by decide +kernel) rfl)) (fun _ h9 => h9) rfl hd (k H locs ls hP hS hl)
theorem gp3_104 (h : Ok l x X cc RX3 d) {s i : Nat} (hs : s < 6) (hi : i < 6) {v : Int32} (hd : decode cc pc = .ok (.putfield 104, 3)) (k : G x X (pu σ (iO s i) 0 v) L st (pc + 3)) : G x X σ L (.int v :: ra X (iO s i) :: st) pc := fun H locs ls hP hS hl => va_put (D := X.1) (ci := 1) (v := .int v) (ty := .int) (C := RX1) (T := TX1) (N := 12) h.hx h.hb h.hts lw_x1 tyX1 tyX1_ok nmX1 h.ho h.hK hP (wl_D h.hA σ) hS (iO s i) (by rw [wl_get (iO_lt hs hi), enc_O X hs hi]) rfl 0 (by decide) (h.hts (.fieldLink RX3 104 "BranchBets$Oracle" "kind" "I") (lw_in 32 (by decide +kernel) rfl)) (fun _ h9 => h9) rfl (by decide +kernel) rfl rfl (Nat.le_of_ble_eq_true rfl) hd (fun H1 locs1 hP1 hD1 hS1 => k H1 locs1 ls (by rw [wl_set (σ' := pu σ (iO s i) 0 v) (by rw [enc_O X hs hi]; simp [pu]) (fun k' hne => pu_ne k' hne) (fun _ _ => rfl)] at hP1; exact hP1) hS1 hl)
theorem gf1_19 (h : Ok l x X cc RX1 d) {s i : Nat} (hs : s < 6) (hi : i < 6) (hd : decode cc pc = .ok (.getfield 19, 3)) (k : G x X σ L (.int (σ.1 (iO s i) 1) :: st) (pc + 3)) : G x X σ L (ra X (iO s i) :: st) pc := fun H locs ls hP hS hl => va_get (D := X.1) (ci := 1) (C := RX1) (T := TX1) (N := 12) h.hx h.hb h.hts lw_x1 h.ho h.hK hP (iO s i) (by rw [wl_get (iO_lt hs hi), enc_O X hs hi]) rfl 1 (by decide) (h.hts (.fieldLink RX1 19 "BranchBets$Oracle" "number" "I") (lw_in 33 (by decide +kernel) rfl)) (fun _ h9 => h9) rfl hd (k H locs ls hP hS hl)
theorem gp1_19 (h : Ok l x X cc RX1 d) {s i : Nat} (hs : s < 6) (hi : i < 6) {v : Int32} (hd : decode cc pc = .ok (.putfield 19, 3)) (k : G x X (pu σ (iO s i) 1 v) L st (pc + 3)) : G x X σ L (.int v :: ra X (iO s i) :: st) pc := fun H locs ls hP hS hl => va_put (D := X.1) (ci := 1) (v := .int v) (ty := .int) (C := RX1) (T := TX1) (N := 12) h.hx h.hb h.hts lw_x1 tyX1 tyX1_ok nmX1 h.ho h.hK hP (wl_D h.hA σ) hS (iO s i) (by rw [wl_get (iO_lt hs hi), enc_O X hs hi]) rfl 1 (by decide) (h.hts (.fieldLink RX1 19 "BranchBets$Oracle" "number" "I") (lw_in 33 (by decide +kernel) rfl)) (fun _ h9 => h9) rfl (by decide +kernel) rfl rfl (Nat.le_of_ble_eq_true rfl) hd (fun H1 locs1 hP1 hD1 hS1 => k H1 locs1 ls (by rw [wl_set (σ' := pu σ (iO s i) 1 v) (by rw [enc_O X hs hi]; simp [pu]) (fun k' hne => pu_ne k' hne) (fun _ _ => rfl)] at hP1; exact hP1) hS1 hl)
theorem gf5_117 (h : Ok l x X cc RX5 d) {s i : Nat} (hs : s < 6) (hi : i < 6) (hd : decode cc pc = .ok (.getfield 117, 3)) (k : G x X σ L (.int (σ.1 (iO s i) 1) :: st) (pc + 3)) : G x X σ L (ra X (iO s i) :: st) pc := fun H locs ls hP hS hl => va_get (D := X.1) (ci := 1) (C := RX1) (T := TX1) (N := 12) h.hx h.hb h.hts lw_x1 h.ho h.hK hP (iO s i) (by rw [wl_get (iO_lt hs hi), enc_O X hs hi]) rfl 1 (by decide) (h.hts (.fieldLink RX5 117 "BranchBets$Oracle" "number" "I") (lw_in 34 (by decide +kernel) rfl)) (fun _ h9 => h9) rfl hd (k H locs ls hP hS hl)
theorem gp5_117 (h : Ok l x X cc RX5 d) {s i : Nat} (hs : s < 6) (hi : i < 6) {v : Int32} (hd : decode cc pc = .ok (.putfield 117, 3)) (k : G x X (pu σ (iO s i) 1 v) L st (pc + 3)) : G x X σ L (.int v :: ra X (iO s i) :: st) pc := fun H locs ls hP hS hl => va_put (D := X.1) (ci := 1) (v := .int v) (ty := .int) (C := RX1) (T := TX1) (N := 12) h.hx h.hb h.hts lw_x1 tyX1 tyX1_ok nmX1 h.ho h.hK hP (wl_D h.hA σ) hS (iO s i) (by rw [wl_get (iO_lt hs hi), enc_O X hs hi]) rfl 1 (by decide) (h.hts (.fieldLink RX5 117 "BranchBets$Oracle" "number" "I") (lw_in 34 (by decide +kernel) rfl)) (fun _ h9 => h9) rfl (by decide +kernel) rfl rfl (Nat.le_of_ble_eq_true rfl) hd (fun H1 locs1 hP1 hD1 hS1 => k H1 locs1 ls (by rw [wl_set (σ' := pu σ (iO s i) 1 v) (by rw [enc_O X hs hi]; simp [pu]) (fun k' hne => pu_ne k' hne) (fun _ _ => rfl)] at hP1; exact hP1) hS1 hl)
theorem gf1_22 (h : Ok l x X cc RX1 d) {s i : Nat} (hs : s < 6) (hi : i < 6) (hd : decode cc pc = .ok (.getfield 22, 3)) (k : G x X σ L (.int (σ.1 (iO s i) 2) :: st) (pc + 3)) : G x X σ L (ra X (iO s i) :: st) pc := fun H locs ls hP hS hl => va_get (D := X.1) (ci := 1) (C := RX1) (T := TX1) (N := 12) h.hx h.hb h.hts lw_x1 h.ho h.hK hP (iO s i) (by rw [wl_get (iO_lt hs hi), enc_O X hs hi]) rfl 2 (by decide) (h.hts (.fieldLink RX1 22 "BranchBets$Oracle" "purse" "I") (lw_in 35 (by decide +kernel) rfl)) (fun _ h9 => h9) rfl hd (k H locs ls hP hS hl)
theorem gp1_22 (h : Ok l x X cc RX1 d) {s i : Nat} (hs : s < 6) (hi : i < 6) {v : Int32} (hd : decode cc pc = .ok (.putfield 22, 3)) (k : G x X (pu σ (iO s i) 2 v) L st (pc + 3)) : G x X σ L (.int v :: ra X (iO s i) :: st) pc := fun H locs ls hP hS hl => va_put (D := X.1) (ci := 1) (v := .int v) (ty := .int) (C := RX1) (T := TX1) (N := 12) h.hx h.hb h.hts lw_x1 tyX1 tyX1_ok nmX1 h.ho h.hK hP (wl_D h.hA σ) hS (iO s i) (by rw [wl_get (iO_lt hs hi), enc_O X hs hi]) rfl 2 (by decide) (h.hts (.fieldLink RX1 22 "BranchBets$Oracle" "purse" "I") (lw_in 35 (by decide +kernel) rfl)) (fun _ h9 => h9) rfl (by decide +kernel) rfl rfl (Nat.le_of_ble_eq_true rfl) hd (fun H1 locs1 hP1 hD1 hS1 => k H1 locs1 ls (by rw [wl_set (σ' := pu σ (iO s i) 2 v) (by rw [enc_O X hs hi]; simp [pu]) (fun k' hne => pu_ne k' hne) (fun _ _ => rfl)] at hP1; exact hP1) hS1 hl)
theorem gf5_96 (h : Ok l x X cc RX5 d) {s i : Nat} (hs : s < 6) (hi : i < 6) (hd : decode cc pc = .ok (.getfield 96, 3)) (k : G x X σ L (.int (σ.1 (iO s i) 2) :: st) (pc + 3)) : G x X σ L (ra X (iO s i) :: st) pc := fun H locs ls hP hS hl => va_get (D := X.1) (ci := 1) (C := RX1) (T := TX1) (N := 12) h.hx h.hb h.hts lw_x1 h.ho h.hK hP (iO s i) (by rw [wl_get (iO_lt hs hi), enc_O X hs hi]) rfl 2 (by decide) (h.hts (.fieldLink RX5 96 "BranchBets$Oracle" "purse" "I") (lw_in 36 (by decide +kernel) rfl)) (fun _ h9 => h9) rfl hd (k H locs ls hP hS hl)
theorem gp5_96 (h : Ok l x X cc RX5 d) {s i : Nat} (hs : s < 6) (hi : i < 6) {v : Int32} (hd : decode cc pc = .ok (.putfield 96, 3)) (k : G x X (pu σ (iO s i) 2 v) L st (pc + 3)) : G x X σ L (.int v :: ra X (iO s i) :: st) pc := fun H locs ls hP hS hl => va_put (D := X.1) (ci := 1) (v := .int v) (ty := .int) (C := RX1) (T := TX1) (N := 12) h.hx h.hb h.hts lw_x1 tyX1 tyX1_ok nmX1 h.ho h.hK hP (wl_D h.hA σ) hS (iO s i) (by rw [wl_get (iO_lt hs hi), enc_O X hs hi]) rfl 2 (by decide) (h.hts (.fieldLink RX5 96 "BranchBets$Oracle" "purse" "I") (lw_in 36 (by decide +kernel) rfl)) (fun _ h9 => h9) rfl (by decide +kernel) rfl rfl (Nat.le_of_ble_eq_true rfl) hd (fun H1 locs1 hP1 hD1 hS1 => k H1 locs1 ls (by rw [wl_set (σ' := pu σ (iO s i) 2 v) (by rw [enc_O X hs hi]; simp [pu]) (fun k' hne => pu_ne k' hne) (fun _ _ => rfl)] at hP1; exact hP1) hS1 hl)
theorem gf3_85 (h : Ok l x X cc RX3 d) {s i : Nat} (hs : s < 6) (hi : i < 6) (hd : decode cc pc = .ok (.getfield 85, 3)) (k : G x X σ L (.int (σ.1 (iO s i) 2) :: st) (pc + 3)) : G x X σ L (ra X (iO s i) :: st) pc := fun H locs ls hP hS hl => va_get (D := X.1) (ci := 1) (C := RX1) (T := TX1) (N := 12) h.hx h.hb h.hts lw_x1 h.ho h.hK hP (iO s i) (by rw [wl_get (iO_lt hs hi), enc_O X hs hi]) rfl 2 (by decide) (h.hts (.fieldLink RX3 85 "BranchBets$Oracle" "purse" "I") (lw_in 37 (by decide +kernel) rfl)) (fun _ h9 => h9) rfl hd (k H locs ls hP hS hl)
theorem gp3_85 (h : Ok l x X cc RX3 d) {s i : Nat} (hs : s < 6) (hi : i < 6) {v : Int32} (hd : decode cc pc = .ok (.putfield 85, 3)) (k : G x X (pu σ (iO s i) 2 v) L st (pc + 3)) : G x X σ L (.int v :: ra X (iO s i) :: st) pc := fun H locs ls hP hS hl => va_put (D := X.1) (ci := 1) (v := .int v) (ty := .int) (C := RX1) (T := TX1) (N := 12) h.hx h.hb h.hts lw_x1 tyX1 tyX1_ok nmX1 h.ho h.hK hP (wl_D h.hA σ) hS (iO s i) (by rw [wl_get (iO_lt hs hi), enc_O X hs hi]) rfl 2 (by decide) (h.hts (.fieldLink RX3 85 "BranchBets$Oracle" "purse" "I") (lw_in 37 (by decide +kernel) rfl)) (fun _ h9 => h9) rfl (by decide +kernel) rfl rfl (Nat.le_of_ble_eq_true rfl) hd (fun H1 locs1 hP1 hD1 hS1 => k H1 locs1 ls (by rw [wl_set (σ' := pu σ (iO s i) 2 v) (by rw [enc_O X hs hi]; simp [pu]) (fun k' hne => pu_ne k' hne) (fun _ _ => rfl)] at hP1; exact hP1) hS1 hl)
theorem gf1_25 (h : Ok l x X cc RX1 d) {s i : Nat} (hs : s < 6) (hi : i < 6) (hd : decode cc pc = .ok (.getfield 25, 3)) (k : G x X σ L (.int (σ.1 (iO s i) 3) :: st) (pc + 3)) : G x X σ L (ra X (iO s i) :: st) pc := fun H locs ls hP hS hl => va_get (D := X.1) (ci := 1) (C := RX1) (T := TX1) (N := 12) h.hx h.hb h.hts lw_x1 h.ho h.hK hP (iO s i) (by rw [wl_get (iO_lt hs hi), enc_O X hs hi]) rfl 3 (by decide) (h.hts (.fieldLink RX1 25 "BranchBets$Oracle" "booth" "I") (lw_in 38 (by decide +kernel) rfl)) (fun _ h9 => h9) rfl hd (k H locs ls hP hS hl)
theorem gp1_25 (h : Ok l x X cc RX1 d) {s i : Nat} (hs : s < 6) (hi : i < 6) {v : Int32} (hd : decode cc pc = .ok (.putfield 25, 3)) (k : G x X (pu σ (iO s i) 3 v) L st (pc + 3)) : G x X σ L (.int v :: ra X (iO s i) :: st) pc := fun H locs ls hP hS hl => va_put (D := X.1) (ci := 1) (v := .int v) (ty := .int) (C := RX1) (T := TX1) (N := 12) h.hx h.hb h.hts lw_x1 tyX1 tyX1_ok nmX1 h.ho h.hK hP (wl_D h.hA σ) hS (iO s i) (by rw [wl_get (iO_lt hs hi), enc_O X hs hi]) rfl 3 (by decide) (h.hts (.fieldLink RX1 25 "BranchBets$Oracle" "booth" "I") (lw_in 38 (by decide +kernel) rfl)) (fun _ h9 => h9) rfl (by decide +kernel) rfl rfl (Nat.le_of_ble_eq_true rfl) hd (fun H1 locs1 hP1 hD1 hS1 => k H1 locs1 ls (by rw [wl_set (σ' := pu σ (iO s i) 3 v) (by rw [enc_O X hs hi]; simp [pu]) (fun k' hne => pu_ne k' hne) (fun _ _ => rfl)] at hP1; exact hP1) hS1 hl)
theorem gf3_68 (h : Ok l x X cc RX3 d) {s i : Nat} (hs : s < 6) (hi : i < 6) (hd : decode cc pc = .ok (.getfield 68, 3)) (k : G x X σ L (.int (σ.1 (iO s i) 3) :: st) (pc + 3)) : G x X σ L (ra X (iO s i) :: st) pc := fun H locs ls hP hS hl => va_get (D := X.1) (ci := 1) (C := RX1) (T := TX1) (N := 12) h.hx h.hb h.hts lw_x1 h.ho h.hK hP (iO s i) (by rw [wl_get (iO_lt hs hi), enc_O X hs hi]) rfl 3 (by decide) (h.hts (.fieldLink RX3 68 "BranchBets$Oracle" "booth" "I") (lw_in 39 (by decide +kernel) rfl)) (fun _ h9 => h9) rfl hd (k H locs ls hP hS hl)
theorem gp3_68 (h : Ok l x X cc RX3 d) {s i : Nat} (hs : s < 6) (hi : i < 6) {v : Int32} (hd : decode cc pc = .ok (.putfield 68, 3)) (k : G x X (pu σ (iO s i) 3 v) L st (pc + 3)) : G x X σ L (.int v :: ra X (iO s i) :: st) pc := fun H locs ls hP hS hl => va_put (D := X.1) (ci := 1) (v := .int v) (ty := .int) (C := RX1) (T := TX1) (N := 12) h.hx h.hb h.hts lw_x1 tyX1 tyX1_ok nmX1 h.ho h.hK hP (wl_D h.hA σ) hS (iO s i) (by rw [wl_get (iO_lt hs hi), enc_O X hs hi]) rfl 3 (by decide) (h.hts (.fieldLink RX3 68 "BranchBets$Oracle" "booth" "I") (lw_in 39 (by decide +kernel) rfl)) (fun _ h9 => h9) rfl (by decide +kernel) rfl rfl (Nat.le_of_ble_eq_true rfl) hd (fun H1 locs1 hP1 hD1 hS1 => k H1 locs1 ls (by rw [wl_set (σ' := pu σ (iO s i) 3 v) (by rw [enc_O X hs hi]; simp [pu]) (fun k' hne => pu_ne k' hne) (fun _ _ => rfl)] at hP1; exact hP1) hS1 hl)
theorem gf5_87 (h : Ok l x X cc RX5 d) {s i : Nat} (hs : s < 6) (hi : i < 6) (hd : decode cc pc = .ok (.getfield 87, 3)) (k : G x X σ L (.int (σ.1 (iO s i) 3) :: st) (pc + 3)) : G x X σ L (ra X (iO s i) :: st) pc := fun H locs ls hP hS hl => va_get (D := X.1) (ci := 1) (C := RX1) (T := TX1) (N := 12) h.hx h.hb h.hts lw_x1 h.ho h.hK hP (iO s i) (by rw [wl_get (iO_lt hs hi), enc_O X hs hi]) rfl 3 (by decide) (h.hts (.fieldLink RX5 87 "BranchBets$Oracle" "booth" "I") (lw_in 40 (by decide +kernel) rfl)) (fun _ h9 => h9) rfl hd (k H locs ls hP hS hl)
theorem gp5_87 (h : Ok l x X cc RX5 d) {s i : Nat} (hs : s < 6) (hi : i < 6) {v : Int32} (hd : decode cc pc = .ok (.putfield 87, 3)) (k : G x X (pu σ (iO s i) 3 v) L st (pc + 3)) : G x X σ L (.int v :: ra X (iO s i) :: st) pc := fun H locs ls hP hS hl => va_put (D := X.1) (ci := 1) (v := .int v) (ty := .int) (C := RX1) (T := TX1) (N := 12) h.hx h.hb h.hts lw_x1 tyX1 tyX1_ok nmX1 h.ho h.hK hP (wl_D h.hA σ) hS (iO s i) (by rw [wl_get (iO_lt hs hi), enc_O X hs hi]) rfl 3 (by decide) (h.hts (.fieldLink RX5 87 "BranchBets$Oracle" "booth" "I") (lw_in 40 (by decide +kernel) rfl)) (fun _ h9 => h9) rfl (by decide +kernel) rfl rfl (Nat.le_of_ble_eq_true rfl) hd (fun H1 locs1 hP1 hD1 hS1 => k H1 locs1 ls (by rw [wl_set (σ' := pu σ (iO s i) 3 v) (by rw [enc_O X hs hi]; simp [pu]) (fun k' hne => pu_ne k' hne) (fun _ _ => rfl)] at hP1; exact hP1) hS1 hl)
theorem gf1_28 (h : Ok l x X cc RX1 d) {s i : Nat} (hs : s < 6) (hi : i < 6) (hd : decode cc pc = .ok (.getfield 28, 3)) (k : G x X σ L (.int (σ.1 (iO s i) 4) :: st) (pc + 3)) : G x X σ L (ra X (iO s i) :: st) pc := fun H locs ls hP hS hl => va_get (D := X.1) (ci := 1) (C := RX1) (T := TX1) (N := 12) h.hx h.hb h.hts lw_x1 h.ho h.hK hP (iO s i) (by rw [wl_get (iO_lt hs hi), enc_O X hs hi]) rfl 4 (by decide) (h.hts (.fieldLink RX1 28 "BranchBets$Oracle" "place" "I") (lw_in 41 (by decide +kernel) rfl)) (fun _ h9 => h9) rfl hd (k H locs ls hP hS hl)
theorem gp1_28 (h : Ok l x X cc RX1 d) {s i : Nat} (hs : s < 6) (hi : i < 6) {v : Int32} (hd : decode cc pc = .ok (.putfield 28, 3)) (k : G x X (pu σ (iO s i) 4 v) L st (pc + 3)) : G x X σ L (.int v :: ra X (iO s i) :: st) pc := fun H locs ls hP hS hl => va_put (D := X.1) (ci := 1) (v := .int v) (ty := .int) (C := RX1) (T := TX1) (N := 12) h.hx h.hb h.hts lw_x1 tyX1 tyX1_ok nmX1 h.ho h.hK hP (wl_D h.hA σ) hS (iO s i) (by rw [wl_get (iO_lt hs hi), enc_O X hs hi]) rfl 4 (by decide) (h.hts (.fieldLink RX1 28 "BranchBets$Oracle" "place" "I") (lw_in 41 (by decide +kernel) rfl)) (fun _ h9 => h9) rfl (by decide +kernel) rfl rfl (Nat.le_of_ble_eq_true rfl) hd (fun H1 locs1 hP1 hD1 hS1 => k H1 locs1 ls (by rw [wl_set (σ' := pu σ (iO s i) 4 v) (by rw [enc_O X hs hi]; simp [pu]) (fun k' hne => pu_ne k' hne) (fun _ _ => rfl)] at hP1; exact hP1) hS1 hl)
theorem gf5_90 (h : Ok l x X cc RX5 d) {s i : Nat} (hs : s < 6) (hi : i < 6) (hd : decode cc pc = .ok (.getfield 90, 3)) (k : G x X σ L (.int (σ.1 (iO s i) 4) :: st) (pc + 3)) : G x X σ L (ra X (iO s i) :: st) pc := fun H locs ls hP hS hl => va_get (D := X.1) (ci := 1) (C := RX1) (T := TX1) (N := 12) h.hx h.hb h.hts lw_x1 h.ho h.hK hP (iO s i) (by rw [wl_get (iO_lt hs hi), enc_O X hs hi]) rfl 4 (by decide) (h.hts (.fieldLink RX5 90 "BranchBets$Oracle" "place" "I") (lw_in 42 (by decide +kernel) rfl)) (fun _ h9 => h9) rfl hd (k H locs ls hP hS hl)
theorem gp5_90 (h : Ok l x X cc RX5 d) {s i : Nat} (hs : s < 6) (hi : i < 6) {v : Int32} (hd : decode cc pc = .ok (.putfield 90, 3)) (k : G x X (pu σ (iO s i) 4 v) L st (pc + 3)) : G x X σ L (.int v :: ra X (iO s i) :: st) pc := fun H locs ls hP hS hl => va_put (D := X.1) (ci := 1) (v := .int v) (ty := .int) (C := RX1) (T := TX1) (N := 12) h.hx h.hb h.hts lw_x1 tyX1 tyX1_ok nmX1 h.ho h.hK hP (wl_D h.hA σ) hS (iO s i) (by rw [wl_get (iO_lt hs hi), enc_O X hs hi]) rfl 4 (by decide) (h.hts (.fieldLink RX5 90 "BranchBets$Oracle" "place" "I") (lw_in 42 (by decide +kernel) rfl)) (fun _ h9 => h9) rfl (by decide +kernel) rfl rfl (Nat.le_of_ble_eq_true rfl) hd (fun H1 locs1 hP1 hD1 hS1 => k H1 locs1 ls (by rw [wl_set (σ' := pu σ (iO s i) 4 v) (by rw [enc_O X hs hi]; simp [pu]) (fun k' hne => pu_ne k' hne) (fun _ _ => rfl)] at hP1; exact hP1) hS1 hl)
theorem gf3_75 (h : Ok l x X cc RX3 d) {s i : Nat} (hs : s < 6) (hi : i < 6) (hd : decode cc pc = .ok (.getfield 75, 3)) (k : G x X σ L (.int (σ.1 (iO s i) 4) :: st) (pc + 3)) : G x X σ L (ra X (iO s i) :: st) pc := fun H locs ls hP hS hl => va_get (D := X.1) (ci := 1) (C := RX1) (T := TX1) (N := 12) h.hx h.hb h.hts lw_x1 h.ho h.hK hP (iO s i) (by rw [wl_get (iO_lt hs hi), enc_O X hs hi]) rfl 4 (by decide) (h.hts (.fieldLink RX3 75 "BranchBets$Oracle" "place" "I") (lw_in 43 (by decide +kernel) rfl)) (fun _ h9 => h9) rfl hd (k H locs ls hP hS hl)
theorem gp3_75 (h : Ok l x X cc RX3 d) {s i : Nat} (hs : s < 6) (hi : i < 6) {v : Int32} (hd : decode cc pc = .ok (.putfield 75, 3)) (k : G x X (pu σ (iO s i) 4 v) L st (pc + 3)) : G x X σ L (.int v :: ra X (iO s i) :: st) pc := fun H locs ls hP hS hl => va_put (D := X.1) (ci := 1) (v := .int v) (ty := .int) (C := RX1) (T := TX1) (N := 12) h.hx h.hb h.hts lw_x1 tyX1 tyX1_ok nmX1 h.ho h.hK hP (wl_D h.hA σ) hS (iO s i) (by rw [wl_get (iO_lt hs hi), enc_O X hs hi]) rfl 4 (by decide) (h.hts (.fieldLink RX3 75 "BranchBets$Oracle" "place" "I") (lw_in 43 (by decide +kernel) rfl)) (fun _ h9 => h9) rfl (by decide +kernel) rfl rfl (Nat.le_of_ble_eq_true rfl) hd (fun H1 locs1 hP1 hD1 hS1 => k H1 locs1 ls (by rw [wl_set (σ' := pu σ (iO s i) 4 v) (by rw [enc_O X hs hi]; simp [pu]) (fun k' hne => pu_ne k' hne) (fun _ _ => rfl)] at hP1; exact hP1) hS1 hl)
theorem gf1_31 (h : Ok l x X cc RX1 d) {s i : Nat} (hs : s < 6) (hi : i < 6) (hd : decode cc pc = .ok (.getfield 31, 3)) (k : G x X σ L (.int (σ.1 (iO s i) 5) :: st) (pc + 3)) : G x X σ L (ra X (iO s i) :: st) pc := fun H locs ls hP hS hl => va_get (D := X.1) (ci := 1) (C := RX1) (T := TX1) (N := 12) h.hx h.hb h.hts lw_x1 h.ho h.hK hP (iO s i) (by rw [wl_get (iO_lt hs hi), enc_O X hs hi]) rfl 5 (by decide) (h.hts (.fieldLink RX1 31 "BranchBets$Oracle" "right" "I") (lw_in 44 (by decide +kernel) rfl)) (fun _ h9 => h9) rfl hd (k H locs ls hP hS hl)
theorem gp1_31 (h : Ok l x X cc RX1 d) {s i : Nat} (hs : s < 6) (hi : i < 6) {v : Int32} (hd : decode cc pc = .ok (.putfield 31, 3)) (k : G x X (pu σ (iO s i) 5 v) L st (pc + 3)) : G x X σ L (.int v :: ra X (iO s i) :: st) pc := fun H locs ls hP hS hl => va_put (D := X.1) (ci := 1) (v := .int v) (ty := .int) (C := RX1) (T := TX1) (N := 12) h.hx h.hb h.hts lw_x1 tyX1 tyX1_ok nmX1 h.ho h.hK hP (wl_D h.hA σ) hS (iO s i) (by rw [wl_get (iO_lt hs hi), enc_O X hs hi]) rfl 5 (by decide) (h.hts (.fieldLink RX1 31 "BranchBets$Oracle" "right" "I") (lw_in 44 (by decide +kernel) rfl)) (fun _ h9 => h9) rfl (by decide +kernel) rfl rfl (Nat.le_of_ble_eq_true rfl) hd (fun H1 locs1 hP1 hD1 hS1 => k H1 locs1 ls (by rw [wl_set (σ' := pu σ (iO s i) 5 v) (by rw [enc_O X hs hi]; simp [pu]) (fun k' hne => pu_ne k' hne) (fun _ _ => rfl)] at hP1; exact hP1) hS1 hl)
theorem gf5_121 (h : Ok l x X cc RX5 d) {s i : Nat} (hs : s < 6) (hi : i < 6) (hd : decode cc pc = .ok (.getfield 121, 3)) (k : G x X σ L (.int (σ.1 (iO s i) 5) :: st) (pc + 3)) : G x X σ L (ra X (iO s i) :: st) pc := fun H locs ls hP hS hl => va_get (D := X.1) (ci := 1) (C := RX1) (T := TX1) (N := 12) h.hx h.hb h.hts lw_x1 h.ho h.hK hP (iO s i) (by rw [wl_get (iO_lt hs hi), enc_O X hs hi]) rfl 5 (by decide) (h.hts (.fieldLink RX5 121 "BranchBets$Oracle" "right" "I") (lw_in 45 (by decide +kernel) rfl)) (fun _ h9 => h9) rfl hd (k H locs ls hP hS hl)
theorem gp5_121 (h : Ok l x X cc RX5 d) {s i : Nat} (hs : s < 6) (hi : i < 6) {v : Int32} (hd : decode cc pc = .ok (.putfield 121, 3)) (k : G x X (pu σ (iO s i) 5 v) L st (pc + 3)) : G x X σ L (.int v :: ra X (iO s i) :: st) pc := fun H locs ls hP hS hl => va_put (D := X.1) (ci := 1) (v := .int v) (ty := .int) (C := RX1) (T := TX1) (N := 12) h.hx h.hb h.hts lw_x1 tyX1 tyX1_ok nmX1 h.ho h.hK hP (wl_D h.hA σ) hS (iO s i) (by rw [wl_get (iO_lt hs hi), enc_O X hs hi]) rfl 5 (by decide) (h.hts (.fieldLink RX5 121 "BranchBets$Oracle" "right" "I") (lw_in 45 (by decide +kernel) rfl)) (fun _ h9 => h9) rfl (by decide +kernel) rfl rfl (Nat.le_of_ble_eq_true rfl) hd (fun H1 locs1 hP1 hD1 hS1 => k H1 locs1 ls (by rw [wl_set (σ' := pu σ (iO s i) 5 v) (by rw [enc_O X hs hi]; simp [pu]) (fun k' hne => pu_ne k' hne) (fun _ _ => rfl)] at hP1; exact hP1) hS1 hl)
theorem gf1_34 (h : Ok l x X cc RX1 d) {s i : Nat} (hs : s < 6) (hi : i < 6) (hd : decode cc pc = .ok (.getfield 34, 3)) (k : G x X σ L (.int (σ.1 (iO s i) 6) :: st) (pc + 3)) : G x X σ L (ra X (iO s i) :: st) pc := fun H locs ls hP hS hl => va_get (D := X.1) (ci := 1) (C := RX1) (T := TX1) (N := 12) h.hx h.hb h.hts lw_x1 h.ho h.hK hP (iO s i) (by rw [wl_get (iO_lt hs hi), enc_O X hs hi]) rfl 6 (by decide) (h.hts (.fieldLink RX1 34 "BranchBets$Oracle" "wrong" "I") (lw_in 46 (by decide +kernel) rfl)) (fun _ h9 => h9) rfl hd (k H locs ls hP hS hl)
theorem gp1_34 (h : Ok l x X cc RX1 d) {s i : Nat} (hs : s < 6) (hi : i < 6) {v : Int32} (hd : decode cc pc = .ok (.putfield 34, 3)) (k : G x X (pu σ (iO s i) 6 v) L st (pc + 3)) : G x X σ L (.int v :: ra X (iO s i) :: st) pc := fun H locs ls hP hS hl => va_put (D := X.1) (ci := 1) (v := .int v) (ty := .int) (C := RX1) (T := TX1) (N := 12) h.hx h.hb h.hts lw_x1 tyX1 tyX1_ok nmX1 h.ho h.hK hP (wl_D h.hA σ) hS (iO s i) (by rw [wl_get (iO_lt hs hi), enc_O X hs hi]) rfl 6 (by decide) (h.hts (.fieldLink RX1 34 "BranchBets$Oracle" "wrong" "I") (lw_in 46 (by decide +kernel) rfl)) (fun _ h9 => h9) rfl (by decide +kernel) rfl rfl (Nat.le_of_ble_eq_true rfl) hd (fun H1 locs1 hP1 hD1 hS1 => k H1 locs1 ls (by rw [wl_set (σ' := pu σ (iO s i) 6 v) (by rw [enc_O X hs hi]; simp [pu]) (fun k' hne => pu_ne k' hne) (fun _ _ => rfl)] at hP1; exact hP1) hS1 hl)
theorem gf5_124 (h : Ok l x X cc RX5 d) {s i : Nat} (hs : s < 6) (hi : i < 6) (hd : decode cc pc = .ok (.getfield 124, 3)) (k : G x X σ L (.int (σ.1 (iO s i) 6) :: st) (pc + 3)) : G x X σ L (ra X (iO s i) :: st) pc := fun H locs ls hP hS hl => va_get (D := X.1) (ci := 1) (C := RX1) (T := TX1) (N := 12) h.hx h.hb h.hts lw_x1 h.ho h.hK hP (iO s i) (by rw [wl_get (iO_lt hs hi), enc_O X hs hi]) rfl 6 (by decide) (h.hts (.fieldLink RX5 124 "BranchBets$Oracle" "wrong" "I") (lw_in 47 (by decide +kernel) rfl)) (fun _ h9 => h9) rfl hd (k H locs ls hP hS hl)
theorem gp5_124 (h : Ok l x X cc RX5 d) {s i : Nat} (hs : s < 6) (hi : i < 6) {v : Int32} (hd : decode cc pc = .ok (.putfield 124, 3)) (k : G x X (pu σ (iO s i) 6 v) L st (pc + 3)) : G x X σ L (.int v :: ra X (iO s i) :: st) pc := fun H locs ls hP hS hl => va_put (D := X.1) (ci := 1) (v := .int v) (ty := .int) (C := RX1) (T := TX1) (N := 12) h.hx h.hb h.hts lw_x1 tyX1 tyX1_ok nmX1 h.ho h.hK hP (wl_D h.hA σ) hS (iO s i) (by rw [wl_get (iO_lt hs hi), enc_O X hs hi]) rfl 6 (by decide) (h.hts (.fieldLink RX5 124 "BranchBets$Oracle" "wrong" "I") (lw_in 47 (by decide +kernel) rfl)) (fun _ h9 => h9) rfl (by decide +kernel) rfl rfl (Nat.le_of_ble_eq_true rfl) hd (fun H1 locs1 hP1 hD1 hS1 => k H1 locs1 ls (by rw [wl_set (σ' := pu σ (iO s i) 6 v) (by rw [enc_O X hs hi]; simp [pu]) (fun k' hne => pu_ne k' hne) (fun _ _ => rfl)] at hP1; exact hP1) hS1 hl)
theorem gf1_37 (h : Ok l x X cc RX1 d) {s i : Nat} (hs : s < 6) (hi : i < 6) (hd : decode cc pc = .ok (.getfield 37, 3)) (k : G x X σ L (.int (σ.1 (iO s i) 7) :: st) (pc + 3)) : G x X σ L (ra X (iO s i) :: st) pc := fun H locs ls hP hS hl => va_get (D := X.1) (ci := 1) (C := RX1) (T := TX1) (N := 12) h.hx h.hb h.hts lw_x1 h.ho h.hK hP (iO s i) (by rw [wl_get (iO_lt hs hi), enc_O X hs hi]) rfl 7 (by decide) (h.hts (.fieldLink RX1 37 "BranchBets$Oracle" "record" "I") (lw_in 48 (by decide +kernel) rfl)) (fun _ h9 => h9) rfl hd (k H locs ls hP hS hl)
theorem gp1_37 (h : Ok l x X cc RX1 d) {s i : Nat} (hs : s < 6) (hi : i < 6) {v : Int32} (hd : decode cc pc = .ok (.putfield 37, 3)) (k : G x X (pu σ (iO s i) 7 v) L st (pc + 3)) : G x X σ L (.int v :: ra X (iO s i) :: st) pc := fun H locs ls hP hS hl => va_put (D := X.1) (ci := 1) (v := .int v) (ty := .int) (C := RX1) (T := TX1) (N := 12) h.hx h.hb h.hts lw_x1 tyX1 tyX1_ok nmX1 h.ho h.hK hP (wl_D h.hA σ) hS (iO s i) (by rw [wl_get (iO_lt hs hi), enc_O X hs hi]) rfl 7 (by decide) (h.hts (.fieldLink RX1 37 "BranchBets$Oracle" "record" "I") (lw_in 48 (by decide +kernel) rfl)) (fun _ h9 => h9) rfl (by decide +kernel) rfl rfl (Nat.le_of_ble_eq_true rfl) hd (fun H1 locs1 hP1 hD1 hS1 => k H1 locs1 ls (by rw [wl_set (σ' := pu σ (iO s i) 7 v) (by rw [enc_O X hs hi]; simp [pu]) (fun k' hne => pu_ne k' hne) (fun _ _ => rfl)] at hP1; exact hP1) hS1 hl)
theorem gf5_127 (h : Ok l x X cc RX5 d) {s i : Nat} (hs : s < 6) (hi : i < 6) (hd : decode cc pc = .ok (.getfield 127, 3)) (k : G x X σ L (.int (σ.1 (iO s i) 7) :: st) (pc + 3)) : G x X σ L (ra X (iO s i) :: st) pc := fun H locs ls hP hS hl => va_get (D := X.1) (ci := 1) (C := RX1) (T := TX1) (N := 12) h.hx h.hb h.hts lw_x1 h.ho h.hK hP (iO s i) (by rw [wl_get (iO_lt hs hi), enc_O X hs hi]) rfl 7 (by decide) (h.hts (.fieldLink RX5 127 "BranchBets$Oracle" "record" "I") (lw_in 49 (by decide +kernel) rfl)) (fun _ h9 => h9) rfl hd (k H locs ls hP hS hl)
theorem gp5_127 (h : Ok l x X cc RX5 d) {s i : Nat} (hs : s < 6) (hi : i < 6) {v : Int32} (hd : decode cc pc = .ok (.putfield 127, 3)) (k : G x X (pu σ (iO s i) 7 v) L st (pc + 3)) : G x X σ L (.int v :: ra X (iO s i) :: st) pc := fun H locs ls hP hS hl => va_put (D := X.1) (ci := 1) (v := .int v) (ty := .int) (C := RX1) (T := TX1) (N := 12) h.hx h.hb h.hts lw_x1 tyX1 tyX1_ok nmX1 h.ho h.hK hP (wl_D h.hA σ) hS (iO s i) (by rw [wl_get (iO_lt hs hi), enc_O X hs hi]) rfl 7 (by decide) (h.hts (.fieldLink RX5 127 "BranchBets$Oracle" "record" "I") (lw_in 49 (by decide +kernel) rfl)) (fun _ h9 => h9) rfl (by decide +kernel) rfl rfl (Nat.le_of_ble_eq_true rfl) hd (fun H1 locs1 hP1 hD1 hS1 => k H1 locs1 ls (by rw [wl_set (σ' := pu σ (iO s i) 7 v) (by rw [enc_O X hs hi]; simp [pu]) (fun k' hne => pu_ne k' hne) (fun _ _ => rfl)] at hP1; exact hP1) hS1 hl)
theorem gf1_40 (h : Ok l x X cc RX1 d) {s i : Nat} (hs : s < 6) (hi : i < 6) (hd : decode cc pc = .ok (.getfield 40, 3)) (k : G x X σ L (.int (σ.1 (iO s i) 8) :: st) (pc + 3)) : G x X σ L (ra X (iO s i) :: st) pc := fun H locs ls hP hS hl => va_get (D := X.1) (ci := 1) (C := RX1) (T := TX1) (N := 12) h.hx h.hb h.hts lw_x1 h.ho h.hK hP (iO s i) (by rw [wl_get (iO_lt hs hi), enc_O X hs hi]) rfl 8 (by decide) (h.hts (.fieldLink RX1 40 "BranchBets$Oracle" "ruins" "I") (lw_in 50 (by decide +kernel) rfl)) (fun _ h9 => h9) rfl hd (k H locs ls hP hS hl)
theorem gp1_40 (h : Ok l x X cc RX1 d) {s i : Nat} (hs : s < 6) (hi : i < 6) {v : Int32} (hd : decode cc pc = .ok (.putfield 40, 3)) (k : G x X (pu σ (iO s i) 8 v) L st (pc + 3)) : G x X σ L (.int v :: ra X (iO s i) :: st) pc := fun H locs ls hP hS hl => va_put (D := X.1) (ci := 1) (v := .int v) (ty := .int) (C := RX1) (T := TX1) (N := 12) h.hx h.hb h.hts lw_x1 tyX1 tyX1_ok nmX1 h.ho h.hK hP (wl_D h.hA σ) hS (iO s i) (by rw [wl_get (iO_lt hs hi), enc_O X hs hi]) rfl 8 (by decide) (h.hts (.fieldLink RX1 40 "BranchBets$Oracle" "ruins" "I") (lw_in 50 (by decide +kernel) rfl)) (fun _ h9 => h9) rfl (by decide +kernel) rfl rfl (Nat.le_of_ble_eq_true rfl) hd (fun H1 locs1 hP1 hD1 hS1 => k H1 locs1 ls (by rw [wl_set (σ' := pu σ (iO s i) 8 v) (by rw [enc_O X hs hi]; simp [pu]) (fun k' hne => pu_ne k' hne) (fun _ _ => rfl)] at hP1; exact hP1) hS1 hl)
theorem gf5_130 (h : Ok l x X cc RX5 d) {s i : Nat} (hs : s < 6) (hi : i < 6) (hd : decode cc pc = .ok (.getfield 130, 3)) (k : G x X σ L (.int (σ.1 (iO s i) 8) :: st) (pc + 3)) : G x X σ L (ra X (iO s i) :: st) pc := fun H locs ls hP hS hl => va_get (D := X.1) (ci := 1) (C := RX1) (T := TX1) (N := 12) h.hx h.hb h.hts lw_x1 h.ho h.hK hP (iO s i) (by rw [wl_get (iO_lt hs hi), enc_O X hs hi]) rfl 8 (by decide) (h.hts (.fieldLink RX5 130 "BranchBets$Oracle" "ruins" "I") (lw_in 51 (by decide +kernel) rfl)) (fun _ h9 => h9) rfl hd (k H locs ls hP hS hl)
theorem gp5_130 (h : Ok l x X cc RX5 d) {s i : Nat} (hs : s < 6) (hi : i < 6) {v : Int32} (hd : decode cc pc = .ok (.putfield 130, 3)) (k : G x X (pu σ (iO s i) 8 v) L st (pc + 3)) : G x X σ L (.int v :: ra X (iO s i) :: st) pc := fun H locs ls hP hS hl => va_put (D := X.1) (ci := 1) (v := .int v) (ty := .int) (C := RX1) (T := TX1) (N := 12) h.hx h.hb h.hts lw_x1 tyX1 tyX1_ok nmX1 h.ho h.hK hP (wl_D h.hA σ) hS (iO s i) (by rw [wl_get (iO_lt hs hi), enc_O X hs hi]) rfl 8 (by decide) (h.hts (.fieldLink RX5 130 "BranchBets$Oracle" "ruins" "I") (lw_in 51 (by decide +kernel) rfl)) (fun _ h9 => h9) rfl (by decide +kernel) rfl rfl (Nat.le_of_ble_eq_true rfl) hd (fun H1 locs1 hP1 hD1 hS1 => k H1 locs1 ls (by rw [wl_set (σ' := pu σ (iO s i) 8 v) (by rw [enc_O X hs hi]; simp [pu]) (fun k' hne => pu_ne k' hne) (fun _ _ => rfl)] at hP1; exact hP1) hS1 hl)
theorem gf3_111 (h : Ok l x X cc RX3 d) {s i : Nat} (hs : s < 6) (hi : i < 6) (hd : decode cc pc = .ok (.getfield 111, 3)) (k : G x X σ L (.int (σ.1 (iO s i) 9) :: st) (pc + 3)) : G x X σ L (ra X (iO s i) :: st) pc := fun H locs ls hP hS hl => va_get (D := X.1) (ci := 1) (C := RX1) (T := TX1) (N := 12) h.hx h.hb h.hts lw_x1 h.ho h.hK hP (iO s i) (by rw [wl_get (iO_lt hs hi), enc_O X hs hi]) rfl 9 (by decide) (h.hts (.fieldLink RX3 111 "BranchBets$Oracle" "said" "I") (lw_in 52 (by decide +kernel) rfl)) (fun _ h9 => h9) rfl hd (k H locs ls hP hS hl)
theorem gp3_111 (h : Ok l x X cc RX3 d) {s i : Nat} (hs : s < 6) (hi : i < 6) {v : Int32} (hd : decode cc pc = .ok (.putfield 111, 3)) (k : G x X (pu σ (iO s i) 9 v) L st (pc + 3)) : G x X σ L (.int v :: ra X (iO s i) :: st) pc := fun H locs ls hP hS hl => va_put (D := X.1) (ci := 1) (v := .int v) (ty := .int) (C := RX1) (T := TX1) (N := 12) h.hx h.hb h.hts lw_x1 tyX1 tyX1_ok nmX1 h.ho h.hK hP (wl_D h.hA σ) hS (iO s i) (by rw [wl_get (iO_lt hs hi), enc_O X hs hi]) rfl 9 (by decide) (h.hts (.fieldLink RX3 111 "BranchBets$Oracle" "said" "I") (lw_in 52 (by decide +kernel) rfl)) (fun _ h9 => h9) rfl (by decide +kernel) rfl rfl (Nat.le_of_ble_eq_true rfl) hd (fun H1 locs1 hP1 hD1 hS1 => k H1 locs1 ls (by rw [wl_set (σ' := pu σ (iO s i) 9 v) (by rw [enc_O X hs hi]; simp [pu]) (fun k' hne => pu_ne k' hne) (fun _ _ => rfl)] at hP1; exact hP1) hS1 hl)
theorem gf5_183 (h : Ok l x X cc RX5 d) {s i : Nat} (hs : s < 6) (hi : i < 6) (hd : decode cc pc = .ok (.getfield 183, 3)) (k : G x X σ L (.int (σ.1 (iO s i) 9) :: st) (pc + 3)) : G x X σ L (ra X (iO s i) :: st) pc := fun H locs ls hP hS hl => va_get (D := X.1) (ci := 1) (C := RX1) (T := TX1) (N := 12) h.hx h.hb h.hts lw_x1 h.ho h.hK hP (iO s i) (by rw [wl_get (iO_lt hs hi), enc_O X hs hi]) rfl 9 (by decide) (h.hts (.fieldLink RX5 183 "BranchBets$Oracle" "said" "I") (lw_in 53 (by decide +kernel) rfl)) (fun _ h9 => h9) rfl hd (k H locs ls hP hS hl)
theorem gp5_183 (h : Ok l x X cc RX5 d) {s i : Nat} (hs : s < 6) (hi : i < 6) {v : Int32} (hd : decode cc pc = .ok (.putfield 183, 3)) (k : G x X (pu σ (iO s i) 9 v) L st (pc + 3)) : G x X σ L (.int v :: ra X (iO s i) :: st) pc := fun H locs ls hP hS hl => va_put (D := X.1) (ci := 1) (v := .int v) (ty := .int) (C := RX1) (T := TX1) (N := 12) h.hx h.hb h.hts lw_x1 tyX1 tyX1_ok nmX1 h.ho h.hK hP (wl_D h.hA σ) hS (iO s i) (by rw [wl_get (iO_lt hs hi), enc_O X hs hi]) rfl 9 (by decide) (h.hts (.fieldLink RX5 183 "BranchBets$Oracle" "said" "I") (lw_in 53 (by decide +kernel) rfl)) (fun _ h9 => h9) rfl (by decide +kernel) rfl rfl (Nat.le_of_ble_eq_true rfl) hd (fun H1 locs1 hP1 hD1 hS1 => k H1 locs1 ls (by rw [wl_set (σ' := pu σ (iO s i) 9 v) (by rw [enc_O X hs hi]; simp [pu]) (fun k' hne => pu_ne k' hne) (fun _ _ => rfl)] at hP1; exact hP1) hS1 hl)
theorem gf3_101 (h : Ok l x X cc RX3 d) {s i : Nat} (hs : s < 6) (hi : i < 6) (hd : decode cc pc = .ok (.getfield 101, 3)) (k : G x X σ L (.int (σ.1 (iO s i) 10) :: st) (pc + 3)) : G x X σ L (ra X (iO s i) :: st) pc := fun H locs ls hP hS hl => va_get (D := X.1) (ci := 1) (C := RX1) (T := TX1) (N := 12) h.hx h.hb h.hts lw_x1 h.ho h.hK hP (iO s i) (by rw [wl_get (iO_lt hs hi), enc_O X hs hi]) rfl 10 (by decide) (h.hts (.fieldLink RX3 101 "BranchBets$Oracle" "staked" "I") (lw_in 54 (by decide +kernel) rfl)) (fun _ h9 => h9) rfl hd (k H locs ls hP hS hl)
theorem gp3_101 (h : Ok l x X cc RX3 d) {s i : Nat} (hs : s < 6) (hi : i < 6) {v : Int32} (hd : decode cc pc = .ok (.putfield 101, 3)) (k : G x X (pu σ (iO s i) 10 v) L st (pc + 3)) : G x X σ L (.int v :: ra X (iO s i) :: st) pc := fun H locs ls hP hS hl => va_put (D := X.1) (ci := 1) (v := .int v) (ty := .int) (C := RX1) (T := TX1) (N := 12) h.hx h.hb h.hts lw_x1 tyX1 tyX1_ok nmX1 h.ho h.hK hP (wl_D h.hA σ) hS (iO s i) (by rw [wl_get (iO_lt hs hi), enc_O X hs hi]) rfl 10 (by decide) (h.hts (.fieldLink RX3 101 "BranchBets$Oracle" "staked" "I") (lw_in 54 (by decide +kernel) rfl)) (fun _ h9 => h9) rfl (by decide +kernel) rfl rfl (Nat.le_of_ble_eq_true rfl) hd (fun H1 locs1 hP1 hD1 hS1 => k H1 locs1 ls (by rw [wl_set (σ' := pu σ (iO s i) 10 v) (by rw [enc_O X hs hi]; simp [pu]) (fun k' hne => pu_ne k' hne) (fun _ _ => rfl)] at hP1; exact hP1) hS1 hl)
theorem gf5_186 (h : Ok l x X cc RX5 d) {s i : Nat} (hs : s < 6) (hi : i < 6) (hd : decode cc pc = .ok (.getfield 186, 3)) (k : G x X σ L (.int (σ.1 (iO s i) 10) :: st) (pc + 3)) : G x X σ L (ra X (iO s i) :: st) pc := fun H locs ls hP hS hl => va_get (D := X.1) (ci := 1) (C := RX1) (T := TX1) (N := 12) h.hx h.hb h.hts lw_x1 h.ho h.hK hP (iO s i) (by rw [wl_get (iO_lt hs hi), enc_O X hs hi]) rfl 10 (by decide) (h.hts (.fieldLink RX5 186 "BranchBets$Oracle" "staked" "I") (lw_in 55 (by decide +kernel) rfl)) (fun _ h9 => h9) rfl hd (k H locs ls hP hS hl)
theorem gp5_186 (h : Ok l x X cc RX5 d) {s i : Nat} (hs : s < 6) (hi : i < 6) {v : Int32} (hd : decode cc pc = .ok (.putfield 186, 3)) (k : G x X (pu σ (iO s i) 10 v) L st (pc + 3)) : G x X σ L (.int v :: ra X (iO s i) :: st) pc := fun H locs ls hP hS hl => va_put (D := X.1) (ci := 1) (v := .int v) (ty := .int) (C := RX1) (T := TX1) (N := 12) h.hx h.hb h.hts lw_x1 tyX1 tyX1_ok nmX1 h.ho h.hK hP (wl_D h.hA σ) hS (iO s i) (by rw [wl_get (iO_lt hs hi), enc_O X hs hi]) rfl 10 (by decide) (h.hts (.fieldLink RX5 186 "BranchBets$Oracle" "staked" "I") (lw_in 55 (by decide +kernel) rfl)) (fun _ h9 => h9) rfl (by decide +kernel) rfl rfl (Nat.le_of_ble_eq_true rfl) hd (fun H1 locs1 hP1 hD1 hS1 => k H1 locs1 ls (by rw [wl_set (σ' := pu σ (iO s i) 10 v) (by rw [enc_O X hs hi]; simp [pu]) (fun k' hne => pu_ne k' hne) (fun _ _ => rfl)] at hP1; exact hP1) hS1 hl)
theorem gf1_9 (h : Ok l x X cc RX1 d) {s i : Nat} (hs : s < 6) (hi : i < 6) (hd : decode cc pc = .ok (.getfield 9, 3)) (k : G x X σ L (ra X (iT s i) :: st) (pc + 3)) : G x X σ L (ra X (iO s i) :: st) pc := fun H locs ls hP hS hl => va_get (D := X.1) (ci := 1) (C := RX1) (T := TX1) (N := 12) h.hx h.hb h.hts lw_x1 h.ho h.hK hP (iO s i) (by rw [wl_get (iO_lt hs hi), enc_O X hs hi]) rfl 11 (by decide) (h.hts (.fieldLink RX1 9 "BranchBets$Oracle" "table" "[I") (lw_in 56 (by decide +kernel) rfl)) (fun _ h9 => h9) rfl hd (k H locs ls hP hS hl)
theorem gf5_143 (h : Ok l x X cc RX5 d) {s i : Nat} (hs : s < 6) (hi : i < 6) (hd : decode cc pc = .ok (.getfield 143, 3)) (k : G x X σ L (ra X (iT s i) :: st) (pc + 3)) : G x X σ L (ra X (iO s i) :: st) pc := fun H locs ls hP hS hl => va_get (D := X.1) (ci := 1) (C := RX1) (T := TX1) (N := 12) h.hx h.hb h.hts lw_x1 h.ho h.hK hP (iO s i) (by rw [wl_get (iO_lt hs hi), enc_O X hs hi]) rfl 11 (by decide) (h.hts (.fieldLink RX5 143 "BranchBets$Oracle" "table" "[I") (lw_in 57 (by decide +kernel) rfl)) (fun _ h9 => h9) rfl hd (k H locs ls hP hS hl)
theorem gf0_7 (h : Ok l x X cc RX0 d) {s i : Nat} (hs : s < 6) (hi : i < 8) (hd : decode cc pc = .ok (.getfield 7, 3)) (k : G x X σ L (.int (σ.1 (iL s i) 0) :: st) (pc + 3)) : G x X σ L (ra X (iL s i) :: st) pc := fun H locs ls hP hS hl => va_get (D := X.1) (ci := 0) (C := RX0) (T := TX0) (N := 3) h.hx h.hb h.hts lw_x0 h.ho h.hK hP (iL s i) (by rw [wl_get (iL_lt hs hi), enc_L X hs hi]) rfl 0 (by decide) (h.hts (.fieldLink RX0 7 "BranchBets$Loan" "creditor" "I") (lw_in 91 (by decide +kernel) rfl)) (fun _ h9 => h9) rfl hd (k H locs ls hP hS hl)
theorem gp0_7 (h : Ok l x X cc RX0 d) {s i : Nat} (hs : s < 6) (hi : i < 8) {v : Int32} (hd : decode cc pc = .ok (.putfield 7, 3)) (k : G x X (pu σ (iL s i) 0 v) L st (pc + 3)) : G x X σ L (.int v :: ra X (iL s i) :: st) pc := fun H locs ls hP hS hl => va_put (D := X.1) (ci := 0) (v := .int v) (ty := .int) (C := RX0) (T := TX0) (N := 3) h.hx h.hb h.hts lw_x0 tyX0 tyX0_ok nmX0 h.ho h.hK hP (wl_D h.hA σ) hS (iL s i) (by rw [wl_get (iL_lt hs hi), enc_L X hs hi]) rfl 0 (by decide) (h.hts (.fieldLink RX0 7 "BranchBets$Loan" "creditor" "I") (lw_in 91 (by decide +kernel) rfl)) (fun _ h9 => h9) rfl (by decide +kernel) rfl rfl (Nat.le_of_ble_eq_true rfl) hd (fun H1 locs1 hP1 hD1 hS1 => k H1 locs1 ls (by rw [wl_set (σ' := pu σ (iL s i) 0 v) (by rw [enc_L X hs hi]; simp [pu]) (fun k' hne => pu_ne k' hne) (fun _ _ => rfl)] at hP1; exact hP1) hS1 hl)
theorem gf3_88 (h : Ok l x X cc RX3 d) {s i : Nat} (hs : s < 6) (hi : i < 8) (hd : decode cc pc = .ok (.getfield 88, 3)) (k : G x X σ L (.int (σ.1 (iL s i) 0) :: st) (pc + 3)) : G x X σ L (ra X (iL s i) :: st) pc := fun H locs ls hP hS hl => va_get (D := X.1) (ci := 0) (C := RX0) (T := TX0) (N := 3) h.hx h.hb h.hts lw_x0 h.ho h.hK hP (iL s i) (by rw [wl_get (iL_lt hs hi), enc_L X hs hi]) rfl 0 (by decide) (h.hts (.fieldLink RX3 88 "BranchBets$Loan" "creditor" "I") (lw_in 92 (by decide +kernel) rfl)) (fun _ h9 => h9) rfl hd (k H locs ls hP hS hl)
theorem gp3_88 (h : Ok l x X cc RX3 d) {s i : Nat} (hs : s < 6) (hi : i < 8) {v : Int32} (hd : decode cc pc = .ok (.putfield 88, 3)) (k : G x X (pu σ (iL s i) 0 v) L st (pc + 3)) : G x X σ L (.int v :: ra X (iL s i) :: st) pc := fun H locs ls hP hS hl => va_put (D := X.1) (ci := 0) (v := .int v) (ty := .int) (C := RX0) (T := TX0) (N := 3) h.hx h.hb h.hts lw_x0 tyX0 tyX0_ok nmX0 h.ho h.hK hP (wl_D h.hA σ) hS (iL s i) (by rw [wl_get (iL_lt hs hi), enc_L X hs hi]) rfl 0 (by decide) (h.hts (.fieldLink RX3 88 "BranchBets$Loan" "creditor" "I") (lw_in 92 (by decide +kernel) rfl)) (fun _ h9 => h9) rfl (by decide +kernel) rfl rfl (Nat.le_of_ble_eq_true rfl) hd (fun H1 locs1 hP1 hD1 hS1 => k H1 locs1 ls (by rw [wl_set (σ' := pu σ (iL s i) 0 v) (by rw [enc_L X hs hi]; simp [pu]) (fun k' hne => pu_ne k' hne) (fun _ _ => rfl)] at hP1; exact hP1) hS1 hl)
theorem gf5_150 (h : Ok l x X cc RX5 d) {s i : Nat} (hs : s < 6) (hi : i < 8) (hd : decode cc pc = .ok (.getfield 150, 3)) (k : G x X σ L (.int (σ.1 (iL s i) 0) :: st) (pc + 3)) : G x X σ L (ra X (iL s i) :: st) pc := fun H locs ls hP hS hl => va_get (D := X.1) (ci := 0) (C := RX0) (T := TX0) (N := 3) h.hx h.hb h.hts lw_x0 h.ho h.hK hP (iL s i) (by rw [wl_get (iL_lt hs hi), enc_L X hs hi]) rfl 0 (by decide) (h.hts (.fieldLink RX5 150 "BranchBets$Loan" "creditor" "I") (lw_in 93 (by decide +kernel) rfl)) (fun _ h9 => h9) rfl hd (k H locs ls hP hS hl)
theorem gp5_150 (h : Ok l x X cc RX5 d) {s i : Nat} (hs : s < 6) (hi : i < 8) {v : Int32} (hd : decode cc pc = .ok (.putfield 150, 3)) (k : G x X (pu σ (iL s i) 0 v) L st (pc + 3)) : G x X σ L (.int v :: ra X (iL s i) :: st) pc := fun H locs ls hP hS hl => va_put (D := X.1) (ci := 0) (v := .int v) (ty := .int) (C := RX0) (T := TX0) (N := 3) h.hx h.hb h.hts lw_x0 tyX0 tyX0_ok nmX0 h.ho h.hK hP (wl_D h.hA σ) hS (iL s i) (by rw [wl_get (iL_lt hs hi), enc_L X hs hi]) rfl 0 (by decide) (h.hts (.fieldLink RX5 150 "BranchBets$Loan" "creditor" "I") (lw_in 93 (by decide +kernel) rfl)) (fun _ h9 => h9) rfl (by decide +kernel) rfl rfl (Nat.le_of_ble_eq_true rfl) hd (fun H1 locs1 hP1 hD1 hS1 => k H1 locs1 ls (by rw [wl_set (σ' := pu σ (iL s i) 0 v) (by rw [enc_L X hs hi]; simp [pu]) (fun k' hne => pu_ne k' hne) (fun _ _ => rfl)] at hP1; exact hP1) hS1 hl)
theorem gf0_13 (h : Ok l x X cc RX0 d) {s i : Nat} (hs : s < 6) (hi : i < 8) (hd : decode cc pc = .ok (.getfield 13, 3)) (k : G x X σ L (.int (σ.1 (iL s i) 1) :: st) (pc + 3)) : G x X σ L (ra X (iL s i) :: st) pc := fun H locs ls hP hS hl => va_get (D := X.1) (ci := 0) (C := RX0) (T := TX0) (N := 3) h.hx h.hb h.hts lw_x0 h.ho h.hK hP (iL s i) (by rw [wl_get (iL_lt hs hi), enc_L X hs hi]) rfl 1 (by decide) (h.hts (.fieldLink RX0 13 "BranchBets$Loan" "debtor" "I") (lw_in 94 (by decide +kernel) rfl)) (fun _ h9 => h9) rfl hd (k H locs ls hP hS hl)
theorem gp0_13 (h : Ok l x X cc RX0 d) {s i : Nat} (hs : s < 6) (hi : i < 8) {v : Int32} (hd : decode cc pc = .ok (.putfield 13, 3)) (k : G x X (pu σ (iL s i) 1 v) L st (pc + 3)) : G x X σ L (.int v :: ra X (iL s i) :: st) pc := fun H locs ls hP hS hl => va_put (D := X.1) (ci := 0) (v := .int v) (ty := .int) (C := RX0) (T := TX0) (N := 3) h.hx h.hb h.hts lw_x0 tyX0 tyX0_ok nmX0 h.ho h.hK hP (wl_D h.hA σ) hS (iL s i) (by rw [wl_get (iL_lt hs hi), enc_L X hs hi]) rfl 1 (by decide) (h.hts (.fieldLink RX0 13 "BranchBets$Loan" "debtor" "I") (lw_in 94 (by decide +kernel) rfl)) (fun _ h9 => h9) rfl (by decide +kernel) rfl rfl (Nat.le_of_ble_eq_true rfl) hd (fun H1 locs1 hP1 hD1 hS1 => k H1 locs1 ls (by rw [wl_set (σ' := pu σ (iL s i) 1 v) (by rw [enc_L X hs hi]; simp [pu]) (fun k' hne => pu_ne k' hne) (fun _ _ => rfl)] at hP1; exact hP1) hS1 hl)
theorem gf3_91 (h : Ok l x X cc RX3 d) {s i : Nat} (hs : s < 6) (hi : i < 8) (hd : decode cc pc = .ok (.getfield 91, 3)) (k : G x X σ L (.int (σ.1 (iL s i) 1) :: st) (pc + 3)) : G x X σ L (ra X (iL s i) :: st) pc := fun H locs ls hP hS hl => va_get (D := X.1) (ci := 0) (C := RX0) (T := TX0) (N := 3) h.hx h.hb h.hts lw_x0 h.ho h.hK hP (iL s i) (by rw [wl_get (iL_lt hs hi), enc_L X hs hi]) rfl 1 (by decide) (h.hts (.fieldLink RX3 91 "BranchBets$Loan" "debtor" "I") (lw_in 95 (by decide +kernel) rfl)) (fun _ h9 => h9) rfl hd (k H locs ls hP hS hl)
theorem gp3_91 (h : Ok l x X cc RX3 d) {s i : Nat} (hs : s < 6) (hi : i < 8) {v : Int32} (hd : decode cc pc = .ok (.putfield 91, 3)) (k : G x X (pu σ (iL s i) 1 v) L st (pc + 3)) : G x X σ L (.int v :: ra X (iL s i) :: st) pc := fun H locs ls hP hS hl => va_put (D := X.1) (ci := 0) (v := .int v) (ty := .int) (C := RX0) (T := TX0) (N := 3) h.hx h.hb h.hts lw_x0 tyX0 tyX0_ok nmX0 h.ho h.hK hP (wl_D h.hA σ) hS (iL s i) (by rw [wl_get (iL_lt hs hi), enc_L X hs hi]) rfl 1 (by decide) (h.hts (.fieldLink RX3 91 "BranchBets$Loan" "debtor" "I") (lw_in 95 (by decide +kernel) rfl)) (fun _ h9 => h9) rfl (by decide +kernel) rfl rfl (Nat.le_of_ble_eq_true rfl) hd (fun H1 locs1 hP1 hD1 hS1 => k H1 locs1 ls (by rw [wl_set (σ' := pu σ (iL s i) 1 v) (by rw [enc_L X hs hi]; simp [pu]) (fun k' hne => pu_ne k' hne) (fun _ _ => rfl)] at hP1; exact hP1) hS1 hl)
theorem gf5_155 (h : Ok l x X cc RX5 d) {s i : Nat} (hs : s < 6) (hi : i < 8) (hd : decode cc pc = .ok (.getfield 155, 3)) (k : G x X σ L (.int (σ.1 (iL s i) 1) :: st) (pc + 3)) : G x X σ L (ra X (iL s i) :: st) pc := fun H locs ls hP hS hl => va_get (D := X.1) (ci := 0) (C := RX0) (T := TX0) (N := 3) h.hx h.hb h.hts lw_x0 h.ho h.hK hP (iL s i) (by rw [wl_get (iL_lt hs hi), enc_L X hs hi]) rfl 1 (by decide) (h.hts (.fieldLink RX5 155 "BranchBets$Loan" "debtor" "I") (lw_in 96 (by decide +kernel) rfl)) (fun _ h9 => h9) rfl hd (k H locs ls hP hS hl)
theorem gp5_155 (h : Ok l x X cc RX5 d) {s i : Nat} (hs : s < 6) (hi : i < 8) {v : Int32} (hd : decode cc pc = .ok (.putfield 155, 3)) (k : G x X (pu σ (iL s i) 1 v) L st (pc + 3)) : G x X σ L (.int v :: ra X (iL s i) :: st) pc := fun H locs ls hP hS hl => va_put (D := X.1) (ci := 0) (v := .int v) (ty := .int) (C := RX0) (T := TX0) (N := 3) h.hx h.hb h.hts lw_x0 tyX0 tyX0_ok nmX0 h.ho h.hK hP (wl_D h.hA σ) hS (iL s i) (by rw [wl_get (iL_lt hs hi), enc_L X hs hi]) rfl 1 (by decide) (h.hts (.fieldLink RX5 155 "BranchBets$Loan" "debtor" "I") (lw_in 96 (by decide +kernel) rfl)) (fun _ h9 => h9) rfl (by decide +kernel) rfl rfl (Nat.le_of_ble_eq_true rfl) hd (fun H1 locs1 hP1 hD1 hS1 => k H1 locs1 ls (by rw [wl_set (σ' := pu σ (iL s i) 1 v) (by rw [enc_L X hs hi]; simp [pu]) (fun k' hne => pu_ne k' hne) (fun _ _ => rfl)] at hP1; exact hP1) hS1 hl)
theorem gf0_16 (h : Ok l x X cc RX0 d) {s i : Nat} (hs : s < 6) (hi : i < 8) (hd : decode cc pc = .ok (.getfield 16, 3)) (k : G x X σ L (.int (σ.1 (iL s i) 2) :: st) (pc + 3)) : G x X σ L (ra X (iL s i) :: st) pc := fun H locs ls hP hS hl => va_get (D := X.1) (ci := 0) (C := RX0) (T := TX0) (N := 3) h.hx h.hb h.hts lw_x0 h.ho h.hK hP (iL s i) (by rw [wl_get (iL_lt hs hi), enc_L X hs hi]) rfl 2 (by decide) (h.hts (.fieldLink RX0 16 "BranchBets$Loan" "owed" "I") (lw_in 97 (by decide +kernel) rfl)) (fun _ h9 => h9) rfl hd (k H locs ls hP hS hl)
theorem gp0_16 (h : Ok l x X cc RX0 d) {s i : Nat} (hs : s < 6) (hi : i < 8) {v : Int32} (hd : decode cc pc = .ok (.putfield 16, 3)) (k : G x X (pu σ (iL s i) 2 v) L st (pc + 3)) : G x X σ L (.int v :: ra X (iL s i) :: st) pc := fun H locs ls hP hS hl => va_put (D := X.1) (ci := 0) (v := .int v) (ty := .int) (C := RX0) (T := TX0) (N := 3) h.hx h.hb h.hts lw_x0 tyX0 tyX0_ok nmX0 h.ho h.hK hP (wl_D h.hA σ) hS (iL s i) (by rw [wl_get (iL_lt hs hi), enc_L X hs hi]) rfl 2 (by decide) (h.hts (.fieldLink RX0 16 "BranchBets$Loan" "owed" "I") (lw_in 97 (by decide +kernel) rfl)) (fun _ h9 => h9) rfl (by decide +kernel) rfl rfl (Nat.le_of_ble_eq_true rfl) hd (fun H1 locs1 hP1 hD1 hS1 => k H1 locs1 ls (by rw [wl_set (σ' := pu σ (iL s i) 2 v) (by rw [enc_L X hs hi]; simp [pu]) (fun k' hne => pu_ne k' hne) (fun _ _ => rfl)] at hP1; exact hP1) hS1 hl)
theorem gf3_94 (h : Ok l x X cc RX3 d) {s i : Nat} (hs : s < 6) (hi : i < 8) (hd : decode cc pc = .ok (.getfield 94, 3)) (k : G x X σ L (.int (σ.1 (iL s i) 2) :: st) (pc + 3)) : G x X σ L (ra X (iL s i) :: st) pc := fun H locs ls hP hS hl => va_get (D := X.1) (ci := 0) (C := RX0) (T := TX0) (N := 3) h.hx h.hb h.hts lw_x0 h.ho h.hK hP (iL s i) (by rw [wl_get (iL_lt hs hi), enc_L X hs hi]) rfl 2 (by decide) (h.hts (.fieldLink RX3 94 "BranchBets$Loan" "owed" "I") (lw_in 98 (by decide +kernel) rfl)) (fun _ h9 => h9) rfl hd (k H locs ls hP hS hl)
theorem gp3_94 (h : Ok l x X cc RX3 d) {s i : Nat} (hs : s < 6) (hi : i < 8) {v : Int32} (hd : decode cc pc = .ok (.putfield 94, 3)) (k : G x X (pu σ (iL s i) 2 v) L st (pc + 3)) : G x X σ L (.int v :: ra X (iL s i) :: st) pc := fun H locs ls hP hS hl => va_put (D := X.1) (ci := 0) (v := .int v) (ty := .int) (C := RX0) (T := TX0) (N := 3) h.hx h.hb h.hts lw_x0 tyX0 tyX0_ok nmX0 h.ho h.hK hP (wl_D h.hA σ) hS (iL s i) (by rw [wl_get (iL_lt hs hi), enc_L X hs hi]) rfl 2 (by decide) (h.hts (.fieldLink RX3 94 "BranchBets$Loan" "owed" "I") (lw_in 98 (by decide +kernel) rfl)) (fun _ h9 => h9) rfl (by decide +kernel) rfl rfl (Nat.le_of_ble_eq_true rfl) hd (fun H1 locs1 hP1 hD1 hS1 => k H1 locs1 ls (by rw [wl_set (σ' := pu σ (iL s i) 2 v) (by rw [enc_L X hs hi]; simp [pu]) (fun k' hne => pu_ne k' hne) (fun _ _ => rfl)] at hP1; exact hP1) hS1 hl)
end CALLS
end
section
/-! rules of links -/
section CALLS
variable {l : Launch} {x : fC} {X : fX} {σ : fM} {L : List (Nat × Value)} {st : List Value} {pc : Nat} {cc : ByteArray} {own : String} {d : Nat}
theorem gf5_158 (h : Ok l x X cc RX5 d) {s i : Nat} (hs : s < 6) (hi : i < 8) (hd : decode cc pc = .ok (.getfield 158, 3)) (k : G x X σ L (.int (σ.1 (iL s i) 2) :: st) (pc + 3)) : G x X σ L (ra X (iL s i) :: st) pc := fun H locs ls hP hS hl => va_get (D := X.1) (ci := 0) (C := RX0) (T := TX0) (N := 3) h.hx h.hb h.hts lw_x0 h.ho h.hK hP (iL s i) (by rw [wl_get (iL_lt hs hi), enc_L X hs hi]) rfl 2 (by decide) (h.hts (.fieldLink RX5 158 "BranchBets$Loan" "owed" "I") (lw_in 99 (by decide +kernel) rfl)) (fun _ h9 => h9) rfl hd (k H locs ls hP hS hl)
theorem gp5_158 (h : Ok l x X cc RX5 d) {s i : Nat} (hs : s < 6) (hi : i < 8) {v : Int32} (hd : decode cc pc = .ok (.putfield 158, 3)) (k : G x X (pu σ (iL s i) 2 v) L st (pc + 3)) : G x X σ L (.int v :: ra X (iL s i) :: st) pc := fun H locs ls hP hS hl => va_put (D := X.1) (ci := 0) (v := .int v) (ty := .int) (C := RX0) (T := TX0) (N := 3) h.hx h.hb h.hts lw_x0 tyX0 tyX0_ok nmX0 h.ho h.hK hP (wl_D h.hA σ) hS (iL s i) (by rw [wl_get (iL_lt hs hi), enc_L X hs hi]) rfl 2 (by decide) (h.hts (.fieldLink RX5 158 "BranchBets$Loan" "owed" "I") (lw_in 99 (by decide +kernel) rfl)) (fun _ h9 => h9) rfl (by decide +kernel) rfl rfl (Nat.le_of_ble_eq_true rfl) hd (fun H1 locs1 hP1 hD1 hS1 => k H1 locs1 ls (by rw [wl_set (σ' := pu σ (iL s i) 2 v) (by rw [enc_L X hs hi]; simp [pu]) (fun k' hne => pu_ne k' hne) (fun _ _ => rfl)] at hP1; exact hP1) hS1 hl)
theorem gf3_11 (h : Ok l x X cc RX3 d) {s : Nat} (hs : s < 6) (hd : decode cc pc = .ok (.getfield 11, 3)) (k : G x X σ L (ra X (iOs s) :: st) (pc + 3)) : G x X σ L (ra X (iS s) :: st) pc := fun H locs ls hP hS hl => va_get (D := X.1) (ci := 3) (C := RX3) (T := TX3) (N := 10) h.hx h.hb h.hts lw_x3 h.ho h.hK hP (iS s) (by rw [wl_get (iS_lt hs), enc_S X hs]) rfl 0 (by decide) (h.hts (.fieldLink RX3 11 "BranchBets$State" "oracles" "[LBranchBets$Oracle;") (lw_in 109 (by decide +kernel) rfl)) (fun _ h9 => h9) rfl hd (k H locs ls hP hS hl)
theorem gf5_61 (h : Ok l x X cc RX5 d) {s : Nat} (hs : s < 6) (hd : decode cc pc = .ok (.getfield 61, 3)) (k : G x X σ L (ra X (iOs s) :: st) (pc + 3)) : G x X σ L (ra X (iS s) :: st) pc := fun H locs ls hP hS hl => va_get (D := X.1) (ci := 3) (C := RX3) (T := TX3) (N := 10) h.hx h.hb h.hts lw_x3 h.ho h.hK hP (iS s) (by rw [wl_get (iS_lt hs), enc_S X hs]) rfl 0 (by decide) (h.hts (.fieldLink RX5 61 "BranchBets$State" "oracles" "[LBranchBets$Oracle;") (lw_in 110 (by decide +kernel) rfl)) (fun _ h9 => h9) rfl hd (k H locs ls hP hS hl)
theorem gf3_20 (h : Ok l x X cc RX3 d) {s : Nat} (hs : s < 6) (hd : decode cc pc = .ok (.getfield 20, 3)) (k : G x X σ L (ra X (iLs s) :: st) (pc + 3)) : G x X σ L (ra X (iS s) :: st) pc := fun H locs ls hP hS hl => va_get (D := X.1) (ci := 3) (C := RX3) (T := TX3) (N := 10) h.hx h.hb h.hts lw_x3 h.ho h.hK hP (iS s) (by rw [wl_get (iS_lt hs), enc_S X hs]) rfl 1 (by decide) (h.hts (.fieldLink RX3 20 "BranchBets$State" "loans" "[LBranchBets$Loan;") (lw_in 111 (by decide +kernel) rfl)) (fun _ h9 => h9) rfl hd (k H locs ls hP hS hl)
theorem gf5_146 (h : Ok l x X cc RX5 d) {s : Nat} (hs : s < 6) (hd : decode cc pc = .ok (.getfield 146, 3)) (k : G x X σ L (ra X (iLs s) :: st) (pc + 3)) : G x X σ L (ra X (iS s) :: st) pc := fun H locs ls hP hS hl => va_get (D := X.1) (ci := 3) (C := RX3) (T := TX3) (N := 10) h.hx h.hb h.hts lw_x3 h.ho h.hK hP (iS s) (by rw [wl_get (iS_lt hs), enc_S X hs]) rfl 1 (by decide) (h.hts (.fieldLink RX5 146 "BranchBets$State" "loans" "[LBranchBets$Loan;") (lw_in 112 (by decide +kernel) rfl)) (fun _ h9 => h9) rfl hd (k H locs ls hP hS hl)
theorem gf3_25 (h : Ok l x X cc RX3 d) {s : Nat} (hs : s < 6) (hd : decode cc pc = .ok (.getfield 25, 3)) (k : G x X σ L (ra X (iSet s) :: st) (pc + 3)) : G x X σ L (ra X (iS s) :: st) pc := fun H locs ls hP hS hl => va_get (D := X.1) (ci := 3) (C := RX3) (T := TX3) (N := 10) h.hx h.hb h.hts lw_x3 h.ho h.hK hP (iS s) (by rw [wl_get (iS_lt hs), enc_S X hs]) rfl 2 (by decide) (h.hts (.fieldLink RX3 25 "BranchBets$State" "settings" "[I") (lw_in 113 (by decide +kernel) rfl)) (fun _ h9 => h9) rfl hd (k H locs ls hP hS hl)
theorem gf5_49 (h : Ok l x X cc RX5 d) {s : Nat} (hs : s < 6) (hd : decode cc pc = .ok (.getfield 49, 3)) (k : G x X σ L (ra X (iSet s) :: st) (pc + 3)) : G x X σ L (ra X (iS s) :: st) pc := fun H locs ls hP hS hl => va_get (D := X.1) (ci := 3) (C := RX3) (T := TX3) (N := 10) h.hx h.hb h.hts lw_x3 h.ho h.hK hP (iS s) (by rw [wl_get (iS_lt hs), enc_S X hs]) rfl 2 (by decide) (h.hts (.fieldLink RX5 49 "BranchBets$State" "settings" "[I") (lw_in 114 (by decide +kernel) rfl)) (fun _ h9 => h9) rfl hd (k H locs ls hP hS hl)
theorem gf3_32 (h : Ok l x X cc RX3 d) {s : Nat} (hs : s < 6) (hd : decode cc pc = .ok (.getfield 32, 3)) (k : G x X σ L (.int (σ.1 (iS s) 3) :: st) (pc + 3)) : G x X σ L (ra X (iS s) :: st) pc := fun H locs ls hP hS hl => va_get (D := X.1) (ci := 3) (C := RX3) (T := TX3) (N := 10) h.hx h.hb h.hts lw_x3 h.ho h.hK hP (iS s) (by rw [wl_get (iS_lt hs), enc_S X hs]) rfl 3 (by decide) (h.hts (.fieldLink RX3 32 "BranchBets$State" "oracleCount" "I") (lw_in 115 (by decide +kernel) rfl)) (fun _ h9 => h9) rfl hd (k H locs ls hP hS hl)
theorem gp3_32 (h : Ok l x X cc RX3 d) {s : Nat} (hs : s < 6) {v : Int32} (hd : decode cc pc = .ok (.putfield 32, 3)) (k : G x X (pu σ (iS s) 3 v) L st (pc + 3)) : G x X σ L (.int v :: ra X (iS s) :: st) pc := fun H locs ls hP hS hl => va_put (D := X.1) (ci := 3) (v := .int v) (ty := .int) (C := RX3) (T := TX3) (N := 10) h.hx h.hb h.hts lw_x3 tyX3 tyX3_ok nmX3 h.ho h.hK hP (wl_D h.hA σ) hS (iS s) (by rw [wl_get (iS_lt hs), enc_S X hs]) rfl 3 (by decide) (h.hts (.fieldLink RX3 32 "BranchBets$State" "oracleCount" "I") (lw_in 115 (by decide +kernel) rfl)) (fun _ h9 => h9) rfl (by decide +kernel) rfl rfl (Nat.le_of_ble_eq_true rfl) hd (fun H1 locs1 hP1 hD1 hS1 => k H1 locs1 ls (by rw [wl_set (σ' := pu σ (iS s) 3 v) (by rw [enc_S X hs]; simp [pu]) (fun k' hne => pu_ne k' hne) (fun _ _ => rfl)] at hP1; exact hP1) hS1 hl)
theorem gf5_56 (h : Ok l x X cc RX5 d) {s : Nat} (hs : s < 6) (hd : decode cc pc = .ok (.getfield 56, 3)) (k : G x X σ L (.int (σ.1 (iS s) 3) :: st) (pc + 3)) : G x X σ L (ra X (iS s) :: st) pc := fun H locs ls hP hS hl => va_get (D := X.1) (ci := 3) (C := RX3) (T := TX3) (N := 10) h.hx h.hb h.hts lw_x3 h.ho h.hK hP (iS s) (by rw [wl_get (iS_lt hs), enc_S X hs]) rfl 3 (by decide) (h.hts (.fieldLink RX5 56 "BranchBets$State" "oracleCount" "I") (lw_in 116 (by decide +kernel) rfl)) (fun _ h9 => h9) rfl hd (k H locs ls hP hS hl)
theorem gp5_56 (h : Ok l x X cc RX5 d) {s : Nat} (hs : s < 6) {v : Int32} (hd : decode cc pc = .ok (.putfield 56, 3)) (k : G x X (pu σ (iS s) 3 v) L st (pc + 3)) : G x X σ L (.int v :: ra X (iS s) :: st) pc := fun H locs ls hP hS hl => va_put (D := X.1) (ci := 3) (v := .int v) (ty := .int) (C := RX3) (T := TX3) (N := 10) h.hx h.hb h.hts lw_x3 tyX3 tyX3_ok nmX3 h.ho h.hK hP (wl_D h.hA σ) hS (iS s) (by rw [wl_get (iS_lt hs), enc_S X hs]) rfl 3 (by decide) (h.hts (.fieldLink RX5 56 "BranchBets$State" "oracleCount" "I") (lw_in 116 (by decide +kernel) rfl)) (fun _ h9 => h9) rfl (by decide +kernel) rfl rfl (Nat.le_of_ble_eq_true rfl) hd (fun H1 locs1 hP1 hD1 hS1 => k H1 locs1 ls (by rw [wl_set (σ' := pu σ (iS s) 3 v) (by rw [enc_S X hs]; simp [pu]) (fun k' hne => pu_ne k' hne) (fun _ _ => rfl)] at hP1; exact hP1) hS1 hl)
theorem gf3_40 (h : Ok l x X cc RX3 d) {s : Nat} (hs : s < 6) (hd : decode cc pc = .ok (.getfield 40, 3)) (k : G x X σ L (.int (σ.1 (iS s) 4) :: st) (pc + 3)) : G x X σ L (ra X (iS s) :: st) pc := fun H locs ls hP hS hl => va_get (D := X.1) (ci := 3) (C := RX3) (T := TX3) (N := 10) h.hx h.hb h.hts lw_x3 h.ho h.hK hP (iS s) (by rw [wl_get (iS_lt hs), enc_S X hs]) rfl 4 (by decide) (h.hts (.fieldLink RX3 40 "BranchBets$State" "loanCount" "I") (lw_in 117 (by decide +kernel) rfl)) (fun _ h9 => h9) rfl hd (k H locs ls hP hS hl)
theorem gp3_40 (h : Ok l x X cc RX3 d) {s : Nat} (hs : s < 6) {v : Int32} (hd : decode cc pc = .ok (.putfield 40, 3)) (k : G x X (pu σ (iS s) 4 v) L st (pc + 3)) : G x X σ L (.int v :: ra X (iS s) :: st) pc := fun H locs ls hP hS hl => va_put (D := X.1) (ci := 3) (v := .int v) (ty := .int) (C := RX3) (T := TX3) (N := 10) h.hx h.hb h.hts lw_x3 tyX3 tyX3_ok nmX3 h.ho h.hK hP (wl_D h.hA σ) hS (iS s) (by rw [wl_get (iS_lt hs), enc_S X hs]) rfl 4 (by decide) (h.hts (.fieldLink RX3 40 "BranchBets$State" "loanCount" "I") (lw_in 117 (by decide +kernel) rfl)) (fun _ h9 => h9) rfl (by decide +kernel) rfl rfl (Nat.le_of_ble_eq_true rfl) hd (fun H1 locs1 hP1 hD1 hS1 => k H1 locs1 ls (by rw [wl_set (σ' := pu σ (iS s) 4 v) (by rw [enc_S X hs]; simp [pu]) (fun k' hne => pu_ne k' hne) (fun _ _ => rfl)] at hP1; exact hP1) hS1 hl)
theorem gf5_100 (h : Ok l x X cc RX5 d) {s : Nat} (hs : s < 6) (hd : decode cc pc = .ok (.getfield 100, 3)) (k : G x X σ L (.int (σ.1 (iS s) 4) :: st) (pc + 3)) : G x X σ L (ra X (iS s) :: st) pc := fun H locs ls hP hS hl => va_get (D := X.1) (ci := 3) (C := RX3) (T := TX3) (N := 10) h.hx h.hb h.hts lw_x3 h.ho h.hK hP (iS s) (by rw [wl_get (iS_lt hs), enc_S X hs]) rfl 4 (by decide) (h.hts (.fieldLink RX5 100 "BranchBets$State" "loanCount" "I") (lw_in 118 (by decide +kernel) rfl)) (fun _ h9 => h9) rfl hd (k H locs ls hP hS hl)
theorem gp5_100 (h : Ok l x X cc RX5 d) {s : Nat} (hs : s < 6) {v : Int32} (hd : decode cc pc = .ok (.putfield 100, 3)) (k : G x X (pu σ (iS s) 4 v) L st (pc + 3)) : G x X σ L (.int v :: ra X (iS s) :: st) pc := fun H locs ls hP hS hl => va_put (D := X.1) (ci := 3) (v := .int v) (ty := .int) (C := RX3) (T := TX3) (N := 10) h.hx h.hb h.hts lw_x3 tyX3 tyX3_ok nmX3 h.ho h.hK hP (wl_D h.hA σ) hS (iS s) (by rw [wl_get (iS_lt hs), enc_S X hs]) rfl 4 (by decide) (h.hts (.fieldLink RX5 100 "BranchBets$State" "loanCount" "I") (lw_in 118 (by decide +kernel) rfl)) (fun _ h9 => h9) rfl (by decide +kernel) rfl rfl (Nat.le_of_ble_eq_true rfl) hd (fun H1 locs1 hP1 hD1 hS1 => k H1 locs1 ls (by rw [wl_set (σ' := pu σ (iS s) 4 v) (by rw [enc_S X hs]; simp [pu]) (fun k' hne => pu_ne k' hne) (fun _ _ => rfl)] at hP1; exact hP1) hS1 hl)
theorem gf3_52 (h : Ok l x X cc RX3 d) {s : Nat} (hs : s < 6) (hd : decode cc pc = .ok (.getfield 52, 3)) (k : G x X σ L (.int (σ.1 (iS s) 5) :: st) (pc + 3)) : G x X σ L (ra X (iS s) :: st) pc := fun H locs ls hP hS hl => va_get (D := X.1) (ci := 3) (C := RX3) (T := TX3) (N := 10) h.hx h.hb h.hts lw_x3 h.ho h.hK hP (iS s) (by rw [wl_get (iS_lt hs), enc_S X hs]) rfl 5 (by decide) (h.hts (.fieldLink RX3 52 "BranchBets$State" "houseCoins" "I") (lw_in 119 (by decide +kernel) rfl)) (fun _ h9 => h9) rfl hd (k H locs ls hP hS hl)
theorem gp3_52 (h : Ok l x X cc RX3 d) {s : Nat} (hs : s < 6) {v : Int32} (hd : decode cc pc = .ok (.putfield 52, 3)) (k : G x X (pu σ (iS s) 5 v) L st (pc + 3)) : G x X σ L (.int v :: ra X (iS s) :: st) pc := fun H locs ls hP hS hl => va_put (D := X.1) (ci := 3) (v := .int v) (ty := .int) (C := RX3) (T := TX3) (N := 10) h.hx h.hb h.hts lw_x3 tyX3 tyX3_ok nmX3 h.ho h.hK hP (wl_D h.hA σ) hS (iS s) (by rw [wl_get (iS_lt hs), enc_S X hs]) rfl 5 (by decide) (h.hts (.fieldLink RX3 52 "BranchBets$State" "houseCoins" "I") (lw_in 119 (by decide +kernel) rfl)) (fun _ h9 => h9) rfl (by decide +kernel) rfl rfl (Nat.le_of_ble_eq_true rfl) hd (fun H1 locs1 hP1 hD1 hS1 => k H1 locs1 ls (by rw [wl_set (σ' := pu σ (iS s) 5 v) (by rw [enc_S X hs]; simp [pu]) (fun k' hne => pu_ne k' hne) (fun _ _ => rfl)] at hP1; exact hP1) hS1 hl)
theorem gf5_208 (h : Ok l x X cc RX5 d) {s : Nat} (hs : s < 6) (hd : decode cc pc = .ok (.getfield 208, 3)) (k : G x X σ L (.int (σ.1 (iS s) 5) :: st) (pc + 3)) : G x X σ L (ra X (iS s) :: st) pc := fun H locs ls hP hS hl => va_get (D := X.1) (ci := 3) (C := RX3) (T := TX3) (N := 10) h.hx h.hb h.hts lw_x3 h.ho h.hK hP (iS s) (by rw [wl_get (iS_lt hs), enc_S X hs]) rfl 5 (by decide) (h.hts (.fieldLink RX5 208 "BranchBets$State" "houseCoins" "I") (lw_in 120 (by decide +kernel) rfl)) (fun _ h9 => h9) rfl hd (k H locs ls hP hS hl)
theorem gp5_208 (h : Ok l x X cc RX5 d) {s : Nat} (hs : s < 6) {v : Int32} (hd : decode cc pc = .ok (.putfield 208, 3)) (k : G x X (pu σ (iS s) 5 v) L st (pc + 3)) : G x X σ L (.int v :: ra X (iS s) :: st) pc := fun H locs ls hP hS hl => va_put (D := X.1) (ci := 3) (v := .int v) (ty := .int) (C := RX3) (T := TX3) (N := 10) h.hx h.hb h.hts lw_x3 tyX3 tyX3_ok nmX3 h.ho h.hK hP (wl_D h.hA σ) hS (iS s) (by rw [wl_get (iS_lt hs), enc_S X hs]) rfl 5 (by decide) (h.hts (.fieldLink RX5 208 "BranchBets$State" "houseCoins" "I") (lw_in 120 (by decide +kernel) rfl)) (fun _ h9 => h9) rfl (by decide +kernel) rfl rfl (Nat.le_of_ble_eq_true rfl) hd (fun H1 locs1 hP1 hD1 hS1 => k H1 locs1 ls (by rw [wl_set (σ' := pu σ (iS s) 5 v) (by rw [enc_S X hs]; simp [pu]) (fun k' hne => pu_ne k' hne) (fun _ _ => rfl)] at hP1; exact hP1) hS1 hl)
theorem gf3_55 (h : Ok l x X cc RX3 d) {s : Nat} (hs : s < 6) (hd : decode cc pc = .ok (.getfield 55, 3)) (k : G x X σ L (.int (σ.1 (iS s) 6) :: st) (pc + 3)) : G x X σ L (ra X (iS s) :: st) pc := fun H locs ls hP hS hl => va_get (D := X.1) (ci := 3) (C := RX3) (T := TX3) (N := 10) h.hx h.hb h.hts lw_x3 h.ho h.hK hP (iS s) (by rw [wl_get (iS_lt hs), enc_S X hs]) rfl 6 (by decide) (h.hts (.fieldLink RX3 55 "BranchBets$State" "history" "I") (lw_in 121 (by decide +kernel) rfl)) (fun _ h9 => h9) rfl hd (k H locs ls hP hS hl)
theorem gp3_55 (h : Ok l x X cc RX3 d) {s : Nat} (hs : s < 6) {v : Int32} (hd : decode cc pc = .ok (.putfield 55, 3)) (k : G x X (pu σ (iS s) 6 v) L st (pc + 3)) : G x X σ L (.int v :: ra X (iS s) :: st) pc := fun H locs ls hP hS hl => va_put (D := X.1) (ci := 3) (v := .int v) (ty := .int) (C := RX3) (T := TX3) (N := 10) h.hx h.hb h.hts lw_x3 tyX3 tyX3_ok nmX3 h.ho h.hK hP (wl_D h.hA σ) hS (iS s) (by rw [wl_get (iS_lt hs), enc_S X hs]) rfl 6 (by decide) (h.hts (.fieldLink RX3 55 "BranchBets$State" "history" "I") (lw_in 121 (by decide +kernel) rfl)) (fun _ h9 => h9) rfl (by decide +kernel) rfl rfl (Nat.le_of_ble_eq_true rfl) hd (fun H1 locs1 hP1 hD1 hS1 => k H1 locs1 ls (by rw [wl_set (σ' := pu σ (iS s) 6 v) (by rw [enc_S X hs]; simp [pu]) (fun k' hne => pu_ne k' hne) (fun _ _ => rfl)] at hP1; exact hP1) hS1 hl)
theorem gf5_164 (h : Ok l x X cc RX5 d) {s : Nat} (hs : s < 6) (hd : decode cc pc = .ok (.getfield 164, 3)) (k : G x X σ L (.int (σ.1 (iS s) 6) :: st) (pc + 3)) : G x X σ L (ra X (iS s) :: st) pc := fun H locs ls hP hS hl => va_get (D := X.1) (ci := 3) (C := RX3) (T := TX3) (N := 10) h.hx h.hb h.hts lw_x3 h.ho h.hK hP (iS s) (by rw [wl_get (iS_lt hs), enc_S X hs]) rfl 6 (by decide) (h.hts (.fieldLink RX5 164 "BranchBets$State" "history" "I") (lw_in 122 (by decide +kernel) rfl)) (fun _ h9 => h9) rfl hd (k H locs ls hP hS hl)
theorem gp5_164 (h : Ok l x X cc RX5 d) {s : Nat} (hs : s < 6) {v : Int32} (hd : decode cc pc = .ok (.putfield 164, 3)) (k : G x X (pu σ (iS s) 6 v) L st (pc + 3)) : G x X σ L (.int v :: ra X (iS s) :: st) pc := fun H locs ls hP hS hl => va_put (D := X.1) (ci := 3) (v := .int v) (ty := .int) (C := RX3) (T := TX3) (N := 10) h.hx h.hb h.hts lw_x3 tyX3 tyX3_ok nmX3 h.ho h.hK hP (wl_D h.hA σ) hS (iS s) (by rw [wl_get (iS_lt hs), enc_S X hs]) rfl 6 (by decide) (h.hts (.fieldLink RX5 164 "BranchBets$State" "history" "I") (lw_in 122 (by decide +kernel) rfl)) (fun _ h9 => h9) rfl (by decide +kernel) rfl rfl (Nat.le_of_ble_eq_true rfl) hd (fun H1 locs1 hP1 hD1 hS1 => k H1 locs1 ls (by rw [wl_set (σ' := pu σ (iS s) 6 v) (by rw [enc_S X hs]; simp [pu]) (fun k' hne => pu_ne k' hne) (fun _ _ => rfl)] at hP1; exact hP1) hS1 hl)
theorem gf3_58 (h : Ok l x X cc RX3 d) {s : Nat} (hs : s < 6) (hd : decode cc pc = .ok (.getfield 58, 3)) (k : G x X σ L (.int (σ.1 (iS s) 7) :: st) (pc + 3)) : G x X σ L (ra X (iS s) :: st) pc := fun H locs ls hP hS hl => va_get (D := X.1) (ci := 3) (C := RX3) (T := TX3) (N := 10) h.hx h.hb h.hts lw_x3 h.ho h.hK hP (iS s) (by rw [wl_get (iS_lt hs), enc_S X hs]) rfl 7 (by decide) (h.hts (.fieldLink RX3 58 "BranchBets$State" "branches" "I") (lw_in 123 (by decide +kernel) rfl)) (fun _ h9 => h9) rfl hd (k H locs ls hP hS hl)
theorem gp3_58 (h : Ok l x X cc RX3 d) {s : Nat} (hs : s < 6) {v : Int32} (hd : decode cc pc = .ok (.putfield 58, 3)) (k : G x X (pu σ (iS s) 7 v) L st (pc + 3)) : G x X σ L (.int v :: ra X (iS s) :: st) pc := fun H locs ls hP hS hl => va_put (D := X.1) (ci := 3) (v := .int v) (ty := .int) (C := RX3) (T := TX3) (N := 10) h.hx h.hb h.hts lw_x3 tyX3 tyX3_ok nmX3 h.ho h.hK hP (wl_D h.hA σ) hS (iS s) (by rw [wl_get (iS_lt hs), enc_S X hs]) rfl 7 (by decide) (h.hts (.fieldLink RX3 58 "BranchBets$State" "branches" "I") (lw_in 123 (by decide +kernel) rfl)) (fun _ h9 => h9) rfl (by decide +kernel) rfl rfl (Nat.le_of_ble_eq_true rfl) hd (fun H1 locs1 hP1 hD1 hS1 => k H1 locs1 ls (by rw [wl_set (σ' := pu σ (iS s) 7 v) (by rw [enc_S X hs]; simp [pu]) (fun k' hne => pu_ne k' hne) (fun _ _ => rfl)] at hP1; exact hP1) hS1 hl)
theorem gf5_214 (h : Ok l x X cc RX5 d) {s : Nat} (hs : s < 6) (hd : decode cc pc = .ok (.getfield 214, 3)) (k : G x X σ L (.int (σ.1 (iS s) 7) :: st) (pc + 3)) : G x X σ L (ra X (iS s) :: st) pc := fun H locs ls hP hS hl => va_get (D := X.1) (ci := 3) (C := RX3) (T := TX3) (N := 10) h.hx h.hb h.hts lw_x3 h.ho h.hK hP (iS s) (by rw [wl_get (iS_lt hs), enc_S X hs]) rfl 7 (by decide) (h.hts (.fieldLink RX5 214 "BranchBets$State" "branches" "I") (lw_in 124 (by decide +kernel) rfl)) (fun _ h9 => h9) rfl hd (k H locs ls hP hS hl)
theorem gp5_214 (h : Ok l x X cc RX5 d) {s : Nat} (hs : s < 6) {v : Int32} (hd : decode cc pc = .ok (.putfield 214, 3)) (k : G x X (pu σ (iS s) 7 v) L st (pc + 3)) : G x X σ L (.int v :: ra X (iS s) :: st) pc := fun H locs ls hP hS hl => va_put (D := X.1) (ci := 3) (v := .int v) (ty := .int) (C := RX3) (T := TX3) (N := 10) h.hx h.hb h.hts lw_x3 tyX3 tyX3_ok nmX3 h.ho h.hK hP (wl_D h.hA σ) hS (iS s) (by rw [wl_get (iS_lt hs), enc_S X hs]) rfl 7 (by decide) (h.hts (.fieldLink RX5 214 "BranchBets$State" "branches" "I") (lw_in 124 (by decide +kernel) rfl)) (fun _ h9 => h9) rfl (by decide +kernel) rfl rfl (Nat.le_of_ble_eq_true rfl) hd (fun H1 locs1 hP1 hD1 hS1 => k H1 locs1 ls (by rw [wl_set (σ' := pu σ (iS s) 7 v) (by rw [enc_S X hs]; simp [pu]) (fun k' hne => pu_ne k' hne) (fun _ _ => rfl)] at hP1; exact hP1) hS1 hl)
theorem gf3_61 (h : Ok l x X cc RX3 d) {s : Nat} (hs : s < 6) (hd : decode cc pc = .ok (.getfield 61, 3)) (k : G x X σ L (.int (σ.1 (iS s) 8) :: st) (pc + 3)) : G x X σ L (ra X (iS s) :: st) pc := fun H locs ls hP hS hl => va_get (D := X.1) (ci := 3) (C := RX3) (T := TX3) (N := 10) h.hx h.hb h.hts lw_x3 h.ho h.hK hP (iS s) (by rw [wl_get (iS_lt hs), enc_S X hs]) rfl 8 (by decide) (h.hts (.fieldLink RX3 61 "BranchBets$State" "bets" "I") (lw_in 125 (by decide +kernel) rfl)) (fun _ h9 => h9) rfl hd (k H locs ls hP hS hl)
theorem gp3_61 (h : Ok l x X cc RX3 d) {s : Nat} (hs : s < 6) {v : Int32} (hd : decode cc pc = .ok (.putfield 61, 3)) (k : G x X (pu σ (iS s) 8 v) L st (pc + 3)) : G x X σ L (.int v :: ra X (iS s) :: st) pc := fun H locs ls hP hS hl => va_put (D := X.1) (ci := 3) (v := .int v) (ty := .int) (C := RX3) (T := TX3) (N := 10) h.hx h.hb h.hts lw_x3 tyX3 tyX3_ok nmX3 h.ho h.hK hP (wl_D h.hA σ) hS (iS s) (by rw [wl_get (iS_lt hs), enc_S X hs]) rfl 8 (by decide) (h.hts (.fieldLink RX3 61 "BranchBets$State" "bets" "I") (lw_in 125 (by decide +kernel) rfl)) (fun _ h9 => h9) rfl (by decide +kernel) rfl rfl (Nat.le_of_ble_eq_true rfl) hd (fun H1 locs1 hP1 hD1 hS1 => k H1 locs1 ls (by rw [wl_set (σ' := pu σ (iS s) 8 v) (by rw [enc_S X hs]; simp [pu]) (fun k' hne => pu_ne k' hne) (fun _ _ => rfl)] at hP1; exact hP1) hS1 hl)
theorem gf5_217 (h : Ok l x X cc RX5 d) {s : Nat} (hs : s < 6) (hd : decode cc pc = .ok (.getfield 217, 3)) (k : G x X σ L (.int (σ.1 (iS s) 8) :: st) (pc + 3)) : G x X σ L (ra X (iS s) :: st) pc := fun H locs ls hP hS hl => va_get (D := X.1) (ci := 3) (C := RX3) (T := TX3) (N := 10) h.hx h.hb h.hts lw_x3 h.ho h.hK hP (iS s) (by rw [wl_get (iS_lt hs), enc_S X hs]) rfl 8 (by decide) (h.hts (.fieldLink RX5 217 "BranchBets$State" "bets" "I") (lw_in 126 (by decide +kernel) rfl)) (fun _ h9 => h9) rfl hd (k H locs ls hP hS hl)
theorem gp5_217 (h : Ok l x X cc RX5 d) {s : Nat} (hs : s < 6) {v : Int32} (hd : decode cc pc = .ok (.putfield 217, 3)) (k : G x X (pu σ (iS s) 8 v) L st (pc + 3)) : G x X σ L (.int v :: ra X (iS s) :: st) pc := fun H locs ls hP hS hl => va_put (D := X.1) (ci := 3) (v := .int v) (ty := .int) (C := RX3) (T := TX3) (N := 10) h.hx h.hb h.hts lw_x3 tyX3 tyX3_ok nmX3 h.ho h.hK hP (wl_D h.hA σ) hS (iS s) (by rw [wl_get (iS_lt hs), enc_S X hs]) rfl 8 (by decide) (h.hts (.fieldLink RX5 217 "BranchBets$State" "bets" "I") (lw_in 126 (by decide +kernel) rfl)) (fun _ h9 => h9) rfl (by decide +kernel) rfl rfl (Nat.le_of_ble_eq_true rfl) hd (fun H1 locs1 hP1 hD1 hS1 => k H1 locs1 ls (by rw [wl_set (σ' := pu σ (iS s) 8 v) (by rw [enc_S X hs]; simp [pu]) (fun k' hne => pu_ne k' hne) (fun _ _ => rfl)] at hP1; exact hP1) hS1 hl)
theorem gf3_64 (h : Ok l x X cc RX3 d) {s : Nat} (hs : s < 6) (hd : decode cc pc = .ok (.getfield 64, 3)) (k : G x X σ L (.long (σ.2 (iS s)) :: st) (pc + 3)) : G x X σ L (ra X (iS s) :: st) pc := fun H locs ls hP hS hl => va_get (D := X.1) (ci := 3) (C := RX3) (T := TX3) (N := 10) h.hx h.hb h.hts lw_x3 h.ho h.hK hP (iS s) (by rw [wl_get (iS_lt hs), enc_S X hs]) rfl 9 (by decide) (h.hts (.fieldLink RX3 64 "BranchBets$State" "seenAddresses" "J") (lw_in 127 (by decide +kernel) rfl)) (fun _ h9 => h9) rfl hd (k H locs ls hP hS hl)
theorem gp3_64 (h : Ok l x X cc RX3 d) {s : Nat} (hs : s < 6) {v : Int64} (hd : decode cc pc = .ok (.putfield 64, 3)) (k : G x X (puL σ (iS s) v) L st (pc + 3)) : G x X σ L (.long v :: ra X (iS s) :: st) pc := fun H locs ls hP hS hl => va_put (D := X.1) (ci := 3) (v := .long v) (ty := .long) (C := RX3) (T := TX3) (N := 10) h.hx h.hb h.hts lw_x3 tyX3 tyX3_ok nmX3 h.ho h.hK hP (wl_D h.hA σ) hS (iS s) (by rw [wl_get (iS_lt hs), enc_S X hs]) rfl 9 (by decide) (h.hts (.fieldLink RX3 64 "BranchBets$State" "seenAddresses" "J") (lw_in 127 (by decide +kernel) rfl)) (fun _ h9 => h9) rfl (by decide +kernel) rfl rfl (Nat.le_of_ble_eq_true rfl) hd (fun H1 locs1 hP1 hD1 hS1 => k H1 locs1 ls (by rw [wl_set (σ := σ) (σ' := puL σ (iS s) v) (by rw [enc_S X hs]; simp [puL]) (fun _ _ => rfl) (fun k' hne => by simp [puL, hne])] at hP1; exact hP1) hS1 hl)
theorem gf2_11 (h : Ok l x X cc RX2 d)  (hd : decode cc pc = .ok (.getfield 11, 3)) (k : G x X σ L (ra X (2) :: st) (pc + 3)) : G x X σ L (ra X (1) :: st) pc := fun H locs ls hP hS hl => va_get (D := X.1) (ci := 2) (C := RX2) (T := TX2) (N := 3) h.hx h.hb h.hts lw_x2 h.ho h.hK hP (1) (by rw [wl_get (nX_lt (by decide)), enc_1 X]) rfl 0 (by decide) (h.hts (.fieldLink RX2 11 "BranchBets$Past" "states" "[LBranchBets$State;") (lw_in 158 (by decide +kernel) rfl)) (fun _ h9 => h9) rfl hd (k H locs ls hP hS hl)
theorem gf2_18 (h : Ok l x X cc RX2 d)  (hd : decode cc pc = .ok (.getfield 18, 3)) (k : G x X σ L (.int (σ.1 (1) 1) :: st) (pc + 3)) : G x X σ L (ra X (1) :: st) pc := fun H locs ls hP hS hl => va_get (D := X.1) (ci := 2) (C := RX2) (T := TX2) (N := 3) h.hx h.hb h.hts lw_x2 h.ho h.hK hP (1) (by rw [wl_get (nX_lt (by decide)), enc_1 X]) rfl 1 (by decide) (h.hts (.fieldLink RX2 18 "BranchBets$Past" "first" "I") (lw_in 159 (by decide +kernel) rfl)) (fun _ h9 => h9) rfl hd (k H locs ls hP hS hl)
theorem gp2_18 (h : Ok l x X cc RX2 d)  {v : Int32} (hd : decode cc pc = .ok (.putfield 18, 3)) (k : G x X (pu σ (1) 1 v) L st (pc + 3)) : G x X σ L (.int v :: ra X (1) :: st) pc := fun H locs ls hP hS hl => va_put (D := X.1) (ci := 2) (v := .int v) (ty := .int) (C := RX2) (T := TX2) (N := 3) h.hx h.hb h.hts lw_x2 tyX2 tyX2_ok nmX2 h.ho h.hK hP (wl_D h.hA σ) hS (1) (by rw [wl_get (nX_lt (by decide)), enc_1 X]) rfl 1 (by decide) (h.hts (.fieldLink RX2 18 "BranchBets$Past" "first" "I") (lw_in 159 (by decide +kernel) rfl)) (fun _ h9 => h9) rfl (by decide +kernel) rfl rfl (Nat.le_of_ble_eq_true rfl) hd (fun H1 locs1 hP1 hD1 hS1 => k H1 locs1 ls (by rw [wl_set (σ' := pu σ (1) 1 v) (by rw [enc_1 X]; simp [pu]) (fun k' hne => pu_ne k' hne) (fun _ _ => rfl)] at hP1; exact hP1) hS1 hl)
theorem gf2_22 (h : Ok l x X cc RX2 d)  (hd : decode cc pc = .ok (.getfield 22, 3)) (k : G x X σ L (.int (σ.1 (1) 2) :: st) (pc + 3)) : G x X σ L (ra X (1) :: st) pc := fun H locs ls hP hS hl => va_get (D := X.1) (ci := 2) (C := RX2) (T := TX2) (N := 3) h.hx h.hb h.hts lw_x2 h.ho h.hK hP (1) (by rw [wl_get (nX_lt (by decide)), enc_1 X]) rfl 2 (by decide) (h.hts (.fieldLink RX2 22 "BranchBets$Past" "size" "I") (lw_in 160 (by decide +kernel) rfl)) (fun _ h9 => h9) rfl hd (k H locs ls hP hS hl)
theorem gp2_22 (h : Ok l x X cc RX2 d)  {v : Int32} (hd : decode cc pc = .ok (.putfield 22, 3)) (k : G x X (pu σ (1) 2 v) L st (pc + 3)) : G x X σ L (.int v :: ra X (1) :: st) pc := fun H locs ls hP hS hl => va_put (D := X.1) (ci := 2) (v := .int v) (ty := .int) (C := RX2) (T := TX2) (N := 3) h.hx h.hb h.hts lw_x2 tyX2 tyX2_ok nmX2 h.ho h.hK hP (wl_D h.hA σ) hS (1) (by rw [wl_get (nX_lt (by decide)), enc_1 X]) rfl 2 (by decide) (h.hts (.fieldLink RX2 22 "BranchBets$Past" "size" "I") (lw_in 160 (by decide +kernel) rfl)) (fun _ h9 => h9) rfl (by decide +kernel) rfl rfl (Nat.le_of_ble_eq_true rfl) hd (fun H1 locs1 hP1 hD1 hS1 => k H1 locs1 ls (by rw [wl_set (σ' := pu σ (1) 2 v) (by rw [enc_1 X]; simp [pu]) (fun k' hne => pu_ne k' hne) (fun _ _ => rfl)] at hP1; exact hP1) hS1 hl)
theorem gf5_220 (h : Ok l x X cc RX5 d)  (hd : decode cc pc = .ok (.getfield 220, 3)) (k : G x X σ L (.int (σ.1 (1) 2) :: st) (pc + 3)) : G x X σ L (ra X (1) :: st) pc := fun H locs ls hP hS hl => va_get (D := X.1) (ci := 2) (C := RX2) (T := TX2) (N := 3) h.hx h.hb h.hts lw_x2 h.ho h.hK hP (1) (by rw [wl_get (nX_lt (by decide)), enc_1 X]) rfl 2 (by decide) (h.hts (.fieldLink RX5 220 "BranchBets$Past" "size" "I") (lw_in 161 (by decide +kernel) rfl)) (fun _ h9 => h9) rfl hd (k H locs ls hP hS hl)
theorem gp5_220 (h : Ok l x X cc RX5 d)  {v : Int32} (hd : decode cc pc = .ok (.putfield 220, 3)) (k : G x X (pu σ (1) 2 v) L st (pc + 3)) : G x X σ L (.int v :: ra X (1) :: st) pc := fun H locs ls hP hS hl => va_put (D := X.1) (ci := 2) (v := .int v) (ty := .int) (C := RX2) (T := TX2) (N := 3) h.hx h.hb h.hts lw_x2 tyX2 tyX2_ok nmX2 h.ho h.hK hP (wl_D h.hA σ) hS (1) (by rw [wl_get (nX_lt (by decide)), enc_1 X]) rfl 2 (by decide) (h.hts (.fieldLink RX5 220 "BranchBets$Past" "size" "I") (lw_in 161 (by decide +kernel) rfl)) (fun _ h9 => h9) rfl (by decide +kernel) rfl rfl (Nat.le_of_ble_eq_true rfl) hd (fun H1 locs1 hP1 hD1 hS1 => k H1 locs1 ls (by rw [wl_set (σ' := pu σ (1) 2 v) (by rw [enc_1 X]; simp [pu]) (fun k' hne => pu_ne k' hne) (fun _ _ => rfl)] at hP1; exact hP1) hS1 hl)
theorem gf4_9 (h : Ok l x X cc RX4 d)  (hd : decode cc pc = .ok (.getfield 9, 3)) (k : G x X σ L (ra X (4) :: st) (pc + 3)) : G x X σ L (ra X (3) :: st) pc := fun H locs ls hP hS hl => va_get (D := X.1) (ci := 4) (C := RX4) (T := TX4) (N := 8) h.hx h.hb h.hts lw_x4 h.ho h.hK hP (3) (by rw [wl_get (nX_lt (by decide)), enc_3 X]) rfl 0 (by decide) (h.hts (.fieldLink RX4 9 "BranchBets$Text" "characters" "[C") (lw_in 175 (by decide +kernel) rfl)) (fun _ h9 => h9) rfl hd (k H locs ls hP hS hl)
theorem gf4_15 (h : Ok l x X cc RX4 d)  (hd : decode cc pc = .ok (.getfield 15, 3)) (k : G x X σ L (ra X (5) :: st) (pc + 3)) : G x X σ L (ra X (3) :: st) pc := fun H locs ls hP hS hl => va_get (D := X.1) (ci := 4) (C := RX4) (T := TX4) (N := 8) h.hx h.hb h.hts lw_x4 h.ho h.hK hP (3) (by rw [wl_get (nX_lt (by decide)), enc_3 X]) rfl 1 (by decide) (h.hts (.fieldLink RX4 15 "BranchBets$Text" "numbers" "[I") (lw_in 176 (by decide +kernel) rfl)) (fun _ h9 => h9) rfl hd (k H locs ls hP hS hl)
theorem gf5_223 (h : Ok l x X cc RX5 d)  (hd : decode cc pc = .ok (.getfield 223, 3)) (k : G x X σ L (.int (σ.1 (3) 2) :: st) (pc + 3)) : G x X σ L (ra X (3) :: st) pc := fun H locs ls hP hS hl => va_get (D := X.1) (ci := 4) (C := RX4) (T := TX4) (N := 8) h.hx h.hb h.hts lw_x4 h.ho h.hK hP (3) (by rw [wl_get (nX_lt (by decide)), enc_3 X]) rfl 2 (by decide) (h.hts (.fieldLink RX5 223 "BranchBets$Text" "length" "I") (lw_in 177 (by decide +kernel) rfl)) (fun _ h9 => h9) rfl hd (k H locs ls hP hS hl)
theorem gp5_223 (h : Ok l x X cc RX5 d)  {v : Int32} (hd : decode cc pc = .ok (.putfield 223, 3)) (k : G x X (pu σ (3) 2 v) L st (pc + 3)) : G x X σ L (.int v :: ra X (3) :: st) pc := fun H locs ls hP hS hl => va_put (D := X.1) (ci := 4) (v := .int v) (ty := .int) (C := RX4) (T := TX4) (N := 8) h.hx h.hb h.hts lw_x4 tyX4 tyX4_ok nmX4 h.ho h.hK hP (wl_D h.hA σ) hS (3) (by rw [wl_get (nX_lt (by decide)), enc_3 X]) rfl 2 (by decide) (h.hts (.fieldLink RX5 223 "BranchBets$Text" "length" "I") (lw_in 177 (by decide +kernel) rfl)) (fun _ h9 => h9) rfl (by decide +kernel) rfl rfl (Nat.le_of_ble_eq_true rfl) hd (fun H1 locs1 hP1 hD1 hS1 => k H1 locs1 ls (by rw [wl_set (σ' := pu σ (3) 2 v) (by rw [enc_3 X]; simp [pu]) (fun k' hne => pu_ne k' hne) (fun _ _ => rfl)] at hP1; exact hP1) hS1 hl)
theorem gf5_10 (h : Ok l x X cc RX5 d)  (hd : decode cc pc = .ok (.getfield 10, 3)) (k : G x X σ L (ra X (iS 0) :: st) (pc + 3)) : G x X σ L (ra X (0) :: st) pc := fun H locs ls hP hS hl => va_get (D := X.1) (ci := 5) (C := RX5) (T := TX5) (N := 4) h.hx h.hb h.hts lw_x5 h.ho h.hK hP (0) (by rw [wl_get (nX_lt (by decide)), enc_0 X]) rfl 0 (by decide) (h.hts (.fieldLink RX5 10 "BranchBets" "now" "LBranchBets$State;") (lw_in 196 (by decide +kernel) rfl)) (fun _ h9 => h9) rfl hd (k H locs ls hP hS hl)
theorem gf5_16 (h : Ok l x X cc RX5 d)  (hd : decode cc pc = .ok (.getfield 16, 3)) (k : G x X σ L (ra X (iS 1) :: st) (pc + 3)) : G x X σ L (ra X (0) :: st) pc := fun H locs ls hP hS hl => va_get (D := X.1) (ci := 5) (C := RX5) (T := TX5) (N := 4) h.hx h.hb h.hts lw_x5 h.ho h.hK hP (0) (by rw [wl_get (nX_lt (by decide)), enc_0 X]) rfl 1 (by decide) (h.hts (.fieldLink RX5 16 "BranchBets" "trial" "LBranchBets$State;") (lw_in 197 (by decide +kernel) rfl)) (fun _ h9 => h9) rfl hd (k H locs ls hP hS hl)
theorem gf5_22 (h : Ok l x X cc RX5 d)  (hd : decode cc pc = .ok (.getfield 22, 3)) (k : G x X σ L (ra X (1) :: st) (pc + 3)) : G x X σ L (ra X (0) :: st) pc := fun H locs ls hP hS hl => va_get (D := X.1) (ci := 5) (C := RX5) (T := TX5) (N := 4) h.hx h.hb h.hts lw_x5 h.ho h.hK hP (0) (by rw [wl_get (nX_lt (by decide)), enc_0 X]) rfl 2 (by decide) (h.hts (.fieldLink RX5 22 "BranchBets" "past" "LBranchBets$Past;") (lw_in 198 (by decide +kernel) rfl)) (fun _ h9 => h9) rfl hd (k H locs ls hP hS hl)
theorem gf5_29 (h : Ok l x X cc RX5 d)  (hd : decode cc pc = .ok (.getfield 29, 3)) (k : G x X σ L (ra X (3) :: st) (pc + 3)) : G x X σ L (ra X (0) :: st) pc := fun H locs ls hP hS hl => va_get (D := X.1) (ci := 5) (C := RX5) (T := TX5) (N := 4) h.hx h.hb h.hts lw_x5 h.ho h.hK hP (0) (by rw [wl_get (nX_lt (by decide)), enc_0 X]) rfl 3 (by decide) (h.hts (.fieldLink RX5 29 "BranchBets" "text" "LBranchBets$Text;") (lw_in 199 (by decide +kernel) rfl)) (fun _ h9 => h9) rfl hd (k H locs ls hP hS hl)
theorem clL_97 (h : Ok l x X cc RL d)  {av rest : List Value} {d' : Nat} {r : Int32} {σ' : fM} (hC : Ct l X yX5_set cX5_set 4 (some .int) d' (ra X (0) :: av) σ (some (.int r)) σ') (hn : av.length = 2) (hd : decode cc pc = .ok (.invokevirtual 97, 3)) (hst : st = av.reverse ++ ra X (0) :: rest) (hcat : (rest.map fun v => v.category).sum ≤ 8) (hdd : d' < d) (kk : G x X σ' L (.int r :: rest) (pc + 3)) : G x X σ L st pc := g_callV h (n := 2) (ci := 5) (gd_V (lw_in 209 (by decide +kernel) rfl) (lw_in 210 (by decide +kernel) rfl) (lw_in 211 (by decide +kernel) rfl) (lw_in 1 (by decide +kernel) rfl) (lw_in 212 (by decide +kernel) rfl)) (by decide +kernel) rfl rfl (nX_lt (by decide)) (enc_0 X _ _) (by decide) hn hC hd hst hcat hdd kk
theorem cl5_33 (h : Ok l x X cc RX5 d) {av rest : List Value} {d' : Nat} {r : Int32} {σ' : fM} (hC : Ct l X yX5_isWithin cX5_isWithin 3 (some .boolean) d' av σ (some (.int r)) σ') (hn : av.length = 3) (hd : decode cc pc = .ok (.invokestatic 33, 3)) (hst : st = av.reverse ++ rest) (hcat : (rest.map fun v => v.category).sum ≤ 8) (hdd : d' < d) (kk : G x X σ' L (.int r :: rest) (pc + 3)) : G x X σ L st pc := g_callS h (n := 3) (gd_T (lw_in 215 (by decide +kernel) rfl)) (lw_in 213 (by decide +kernel) rfl) (lw_in 214 (by decide +kernel) rfl) (lw_in 1 (by decide +kernel) rfl) (by decide +kernel) (by decide) hn hC hd hst hcat hdd kk
theorem cl5_45 (h : Ok l x X cc RX5 d)  {av rest : List Value} {d' : Nat} {σ' : fM} (hC : Ct l X yX2_keep cX2_keep 2 none d' (ra X (1) :: av) σ none σ') (hn : av.length = 1) (hd : decode cc pc = .ok (.invokevirtual 45, 3)) (hst : st = av.reverse ++ ra X (1) :: rest) (hcat : (rest.map fun v => v.category).sum ≤ 8) (hdd : d' < d) (kk : G x X σ' L (rest) (pc + 3)) : G x X σ L st pc := g_callV h (n := 1) (ci := 2) (gd_V (lw_in 221 (by decide +kernel) rfl) (lw_in 222 (by decide +kernel) rfl) (lw_in 223 (by decide +kernel) rfl) (lw_in 5 (by decide +kernel) rfl) (lw_in 224 (by decide +kernel) rfl)) (by decide +kernel) rfl rfl (nX_lt (by decide)) (enc_1 X _ _) (by decide) hn hC hd hst hcat hdd kk
theorem cl2_25 (h : Ok l x X cc RX2 d) {s : Nat} (hs : s < 6) {av rest : List Value} {d' : Nat} {σ' : fM} (hC : Ct l X yX3_copyFrom cX3_copyFrom 3 none d' (ra X (iS s) :: av) σ none σ') (hn : av.length = 1) (hd : decode cc pc = .ok (.invokevirtual 25, 3)) (hst : st = av.reverse ++ ra X (iS s) :: rest) (hcat : (rest.map fun v => v.category).sum ≤ 8) (hdd : d' < d) (kk : G x X σ' L (rest) (pc + 3)) : G x X σ L st pc := g_callV h (n := 1) (ci := 3) (gd_V (lw_in 225 (by decide +kernel) rfl) (lw_in 226 (by decide +kernel) rfl) (lw_in 227 (by decide +kernel) rfl) (lw_in 2 (by decide +kernel) rfl) (lw_in 228 (by decide +kernel) rfl)) (by decide +kernel) rfl rfl (iS_lt hs) (enc_S X hs _ _) (by decide) hn hC hd hst hcat hdd kk
theorem cl3_36 (h : Ok l x X cc RX3 d) {s i : Nat} (hs : s < 6) (hi : i < 6) {av rest : List Value} {d' : Nat} {σ' : fM} (hC : Ct l X yX1_copyFrom cX1_copyFrom 2 none d' (ra X (iO s i) :: av) σ none σ') (hn : av.length = 1) (hd : decode cc pc = .ok (.invokevirtual 36, 3)) (hst : st = av.reverse ++ ra X (iO s i) :: rest) (hcat : (rest.map fun v => v.category).sum ≤ 8) (hdd : d' < d) (kk : G x X σ' L (rest) (pc + 3)) : G x X σ L st pc := g_callV h (n := 1) (ci := 1) (gd_V (lw_in 229 (by decide +kernel) rfl) (lw_in 230 (by decide +kernel) rfl) (lw_in 231 (by decide +kernel) rfl) (lw_in 3 (by decide +kernel) rfl) (lw_in 232 (by decide +kernel) rfl)) (by decide +kernel) rfl rfl (iO_lt hs hi) (enc_O X hs hi _ _) (by decide) hn hC hd hst hcat hdd kk
theorem cl3_43 (h : Ok l x X cc RX3 d) {s i : Nat} (hs : s < 6) (hi : i < 8) {av rest : List Value} {d' : Nat} {σ' : fM} (hC : Ct l X yX0_copyFrom cX0_copyFrom 2 none d' (ra X (iL s i) :: av) σ none σ') (hn : av.length = 1) (hd : decode cc pc = .ok (.invokevirtual 43, 3)) (hst : st = av.reverse ++ ra X (iL s i) :: rest) (hcat : (rest.map fun v => v.category).sum ≤ 8) (hdd : d' < d) (kk : G x X σ' L (rest) (pc + 3)) : G x X σ L st pc := g_callV h (n := 1) (ci := 0) (gd_V (lw_in 236 (by decide +kernel) rfl) (lw_in 237 (by decide +kernel) rfl) (lw_in 238 (by decide +kernel) rfl) (lw_in 4 (by decide +kernel) rfl) (lw_in 239 (by decide +kernel) rfl)) (by decide +kernel) rfl rfl (iL_lt hs hi) (enc_L X hs hi _ _) (by decide) hn hC hd hst hcat hdd kk
theorem clL_100 (h : Ok l x X cc RL d)  {av rest : List Value} {d' : Nat} {r : Int32} {σ' : fM} (hC : Ct l X yX5_oracle cX5_oracle 5 (some .int) d' (ra X (0) :: av) σ (some (.int r)) σ') (hn : av.length = 3) (hd : decode cc pc = .ok (.invokevirtual 100, 3)) (hst : st = av.reverse ++ ra X (0) :: rest) (hcat : (rest.map fun v => v.category).sum ≤ 8) (hdd : d' < d) (kk : G x X σ' L (.int r :: rest) (pc + 3)) : G x X σ L st pc := g_callV h (n := 3) (ci := 5) (gd_V (lw_in 241 (by decide +kernel) rfl) (lw_in 242 (by decide +kernel) rfl) (lw_in 243 (by decide +kernel) rfl) (lw_in 1 (by decide +kernel) rfl) (lw_in 244 (by decide +kernel) rfl)) (by decide +kernel) rfl rfl (nX_lt (by decide)) (enc_0 X _ _) (by decide) hn hC hd hst hcat hdd kk
theorem cl5_52 (h : Ok l x X cc RX5 d) {av rest : List Value} {d' : Nat} {r : Int32} {σ' : fM} (hC : Ct l X yX5_mostNumberOf cX5_mostNumberOf 1 (some .int) d' av σ (some (.int r)) σ') (hn : av.length = 1) (hd : decode cc pc = .ok (.invokestatic 52, 3)) (hst : st = av.reverse ++ rest) (hcat : (rest.map fun v => v.category).sum ≤ 8) (hdd : d' < d) (kk : G x X σ' L (.int r :: rest) (pc + 3)) : G x X σ L st pc := g_callS h (n := 1) (gd_T (lw_in 247 (by decide +kernel) rfl)) (lw_in 245 (by decide +kernel) rfl) (lw_in 246 (by decide +kernel) rfl) (lw_in 1 (by decide +kernel) rfl) (by decide +kernel) (by decide) hn hC hd hst hcat hdd kk
theorem cl5_65 (h : Ok l x X cc RX5 d) {s i : Nat} (hs : s < 6) (hi : i < 6) {av rest : List Value} {d' : Nat} {σ' : fM} (hC : Ct l X yX1_begin cX1_begin 5 none d' (ra X (iO s i) :: av) σ none σ') (hn : av.length = 3) (hd : decode cc pc = .ok (.invokevirtual 65, 3)) (hst : st = av.reverse ++ ra X (iO s i) :: rest) (hcat : (rest.map fun v => v.category).sum ≤ 8) (hdd : d' < d) (kk : G x X σ' L (rest) (pc + 3)) : G x X σ L st pc := g_callV h (n := 3) (ci := 1) (gd_V (lw_in 249 (by decide +kernel) rfl) (lw_in 250 (by decide +kernel) rfl) (lw_in 251 (by decide +kernel) rfl) (lw_in 3 (by decide +kernel) rfl) (lw_in 252 (by decide +kernel) rfl)) (by decide +kernel) rfl rfl (iO_lt hs hi) (enc_O X hs hi _ _) (by decide) hn hC hd hst hcat hdd kk
theorem clL_106 (h : Ok l x X cc RL d)  {av rest : List Value} {d' : Nat} {r : Int32} {σ' : fM} (hC : Ct l X yX5_seat cX5_seat 5 (some .int) d' (ra X (0) :: av) σ (some (.int r)) σ') (hn : av.length = 2) (hd : decode cc pc = .ok (.invokevirtual 106, 3)) (hst : st = av.reverse ++ ra X (0) :: rest) (hcat : (rest.map fun v => v.category).sum ≤ 8) (hdd : d' < d) (kk : G x X σ' L (.int r :: rest) (pc + 3)) : G x X σ L st pc := g_callV h (n := 2) (ci := 5) (gd_V (lw_in 253 (by decide +kernel) rfl) (lw_in 254 (by decide +kernel) rfl) (lw_in 255 (by decide +kernel) rfl) (lw_in 1 (by decide +kernel) rfl) (lw_in 256 (by decide +kernel) rfl)) (by decide +kernel) rfl rfl (nX_lt (by decide)) (enc_0 X _ _) (by decide) hn hC hd hst hcat hdd kk
theorem cl5_71 (h : Ok l x X cc RX5 d)  {av rest : List Value} {d' : Nat} {r : Int32} {σ' : fM} (hC : Ct l X yX5_isOracle cX5_isOracle 2 (some .boolean) d' (ra X (0) :: av) σ (some (.int r)) σ') (hn : av.length = 1) (hd : decode cc pc = .ok (.invokevirtual 71, 3)) (hst : st = av.reverse ++ ra X (0) :: rest) (hcat : (rest.map fun v => v.category).sum ≤ 8) (hdd : d' < d) (kk : G x X σ' L (.int r :: rest) (pc + 3)) : G x X σ L st pc := g_callV h (n := 1) (ci := 5) (gd_V (lw_in 257 (by decide +kernel) rfl) (lw_in 259 (by decide +kernel) rfl) (lw_sel 0 (by decide +kernel) rfl) (lw_in 1 (by decide +kernel) rfl) (lw_in 260 (by decide +kernel) rfl)) (by decide +kernel) rfl rfl (nX_lt (by decide)) (enc_0 X _ _) (by decide) hn hC hd hst hcat hdd kk
theorem cl5_75 (h : Ok l x X cc RX5 d) {s i : Nat} (hs : s < 6) (hi : i < 6) {av rest : List Value} {d' : Nat} {r : Int32} {σ' : fM} (hC : Ct l X yX1_hasSeat cX1_hasSeat 1 (some .boolean) d' (ra X (iO s i) :: av) σ (some (.int r)) σ') (hn : av.length = 0) (hd : decode cc pc = .ok (.invokevirtual 75, 3)) (hst : st = av.reverse ++ ra X (iO s i) :: rest) (hcat : (rest.map fun v => v.category).sum ≤ 8) (hdd : d' < d) (kk : G x X σ' L (.int r :: rest) (pc + 3)) : G x X σ L st pc := g_callV h (n := 0) (ci := 1) (gd_V (lw_in 261 (by decide +kernel) rfl) (lw_in 262 (by decide +kernel) rfl) (lw_in 263 (by decide +kernel) rfl) (lw_in 3 (by decide +kernel) rfl) (lw_in 264 (by decide +kernel) rfl)) (by decide +kernel) rfl rfl (iO_lt hs hi) (enc_O X hs hi _ _) (by decide) hn hC hd hst hcat hdd kk
theorem cl5_79 (h : Ok l x X cc RX5 d) {av rest : List Value} {d' : Nat} {r : Int32} {σ' : fM} (hC : Ct l X yX5_takes cX5_takes 2 (some .boolean) d' av σ (some (.int r)) σ') (hn : av.length = 2) (hd : decode cc pc = .ok (.invokestatic 79, 3)) (hst : st = av.reverse ++ rest) (hcat : (rest.map fun v => v.category).sum ≤ 8) (hdd : d' < d) (kk : G x X σ' L (.int r :: rest) (pc + 3)) : G x X σ L st pc := g_callS h (n := 2) (gd_T (lw_in 267 (by decide +kernel) rfl)) (lw_in 265 (by decide +kernel) rfl) (lw_in 266 (by decide +kernel) rfl) (lw_in 1 (by decide +kernel) rfl) (by decide +kernel) (by decide) hn hC hd hst hcat hdd kk
theorem cl5_161 (h : Ok l x X cc RX5 d) {s i : Nat} (hs : s < 6) (hi : i < 6) {av rest : List Value} {d' : Nat} {r : Int32} {σ' : fM} (hC : Ct l X yX1_hasTable cX1_hasTable 1 (some .boolean) d' (ra X (iO s i) :: av) σ (some (.int r)) σ') (hn : av.length = 0) (hd : decode cc pc = .ok (.invokevirtual 161, 3)) (hst : st = av.reverse ++ ra X (iO s i) :: rest) (hcat : (rest.map fun v => v.category).sum ≤ 8) (hdd : d' < d) (kk : G x X σ' L (.int r :: rest) (pc + 3)) : G x X σ L st pc := g_callV h (n := 0) (ci := 1) (gd_V (lw_in 268 (by decide +kernel) rfl) (lw_in 269 (by decide +kernel) rfl) (lw_in 270 (by decide +kernel) rfl) (lw_in 3 (by decide +kernel) rfl) (lw_in 271 (by decide +kernel) rfl)) (by decide +kernel) rfl rfl (iO_lt hs hi) (enc_O X hs hi _ _) (by decide) hn hC hd hst hcat hdd kk
theorem cl5_84 (h : Ok l x X cc RX5 d) {s : Nat} (hs : s < 6) {av rest : List Value} {d' : Nat} {r : Int32} {σ' : fM} (hC : Ct l X yX3_lowestFreeSeat cX3_lowestFreeSeat 3 (some .int) d' (ra X (iS s) :: av) σ (some (.int r)) σ') (hn : av.length = 1) (hd : decode cc pc = .ok (.invokevirtual 84, 3)) (hst : st = av.reverse ++ ra X (iS s) :: rest) (hcat : (rest.map fun v => v.category).sum ≤ 8) (hdd : d' < d) (kk : G x X σ' L (.int r :: rest) (pc + 3)) : G x X σ L st pc := g_callV h (n := 1) (ci := 3) (gd_V (lw_in 273 (by decide +kernel) rfl) (lw_in 274 (by decide +kernel) rfl) (lw_in 275 (by decide +kernel) rfl) (lw_in 2 (by decide +kernel) rfl) (lw_in 276 (by decide +kernel) rfl)) (by decide +kernel) rfl rfl (iS_lt hs) (enc_S X hs _ _) (by decide) hn hC hd hst hcat hdd kk
theorem cl3_71 (h : Ok l x X cc RX3 d) {s : Nat} (hs : s < 6) {av rest : List Value} {d' : Nat} {r : Int32} {σ' : fM} (hC : Ct l X yX3_isTaken cX3_isTaken 4 (some .boolean) d' (ra X (iS s) :: av) σ (some (.int r)) σ') (hn : av.length = 2) (hd : decode cc pc = .ok (.invokevirtual 71, 3)) (hst : st = av.reverse ++ ra X (iS s) :: rest) (hcat : (rest.map fun v => v.category).sum ≤ 8) (hdd : d' < d) (kk : G x X σ' L (.int r :: rest) (pc + 3)) : G x X σ L st pc := g_callV h (n := 2) (ci := 3) (gd_V (lw_in 277 (by decide +kernel) rfl) (lw_in 278 (by decide +kernel) rfl) (lw_in 279 (by decide +kernel) rfl) (lw_in 2 (by decide +kernel) rfl) (lw_in 280 (by decide +kernel) rfl)) (by decide +kernel) rfl rfl (iS_lt hs) (enc_S X hs _ _) (by decide) hn hC hd hst hcat hdd kk
theorem cl5_93 (h : Ok l x X cc RX5 d) {s : Nat} (hs : s < 6) {av rest : List Value} {d' : Nat} {r : Int32} {σ' : fM} (hC : Ct l X yX3_sittersOf cX3_sittersOf 4 (some .int) d' (ra X (iS s) :: av) σ (some (.int r)) σ') (hn : av.length = 1) (hd : decode cc pc = .ok (.invokevirtual 93, 3)) (hst : st = av.reverse ++ ra X (iS s) :: rest) (hcat : (rest.map fun v => v.category).sum ≤ 8) (hdd : d' < d) (kk : G x X σ' L (.int r :: rest) (pc + 3)) : G x X σ L st pc := g_callV h (n := 1) (ci := 3) (gd_V (lw_in 281 (by decide +kernel) rfl) (lw_in 282 (by decide +kernel) rfl) (lw_in 283 (by decide +kernel) rfl) (lw_in 2 (by decide +kernel) rfl) (lw_in 284 (by decide +kernel) rfl)) (by decide +kernel) rfl rfl (iS_lt hs) (enc_S X hs _ _) (by decide) hn hC hd hst hcat hdd kk
theorem clL_103 (h : Ok l x X cc RL d)  {av rest : List Value} {d' : Nat} {r : Int32} {σ' : fM} (hC : Ct l X yX5_stand cX5_stand 4 (some .int) d' (ra X (0) :: av) σ (some (.int r)) σ') (hn : av.length = 1) (hd : decode cc pc = .ok (.invokevirtual 103, 3)) (hst : st = av.reverse ++ ra X (0) :: rest) (hcat : (rest.map fun v => v.category).sum ≤ 8) (hdd : d' < d) (kk : G x X σ' L (.int r :: rest) (pc + 3)) : G x X σ L st pc := g_callV h (n := 1) (ci := 5) (gd_V (lw_in 285 (by decide +kernel) rfl) (lw_in 286 (by decide +kernel) rfl) (lw_in 287 (by decide +kernel) rfl) (lw_in 1 (by decide +kernel) rfl) (lw_in 288 (by decide +kernel) rfl)) (by decide +kernel) rfl rfl (nX_lt (by decide)) (enc_0 X _ _) (by decide) hn hC hd hst hcat hdd kk
theorem clL_114 (h : Ok l x X cc RL d)  {av rest : List Value} {d' : Nat} {r : Int32} {σ' : fM} (hC : Ct l X yX5_give cX5_give 4 (some .int) d' (ra X (0) :: av) σ (some (.int r)) σ') (hn : av.length = 2) (hd : decode cc pc = .ok (.invokevirtual 114, 3)) (hst : st = av.reverse ++ ra X (0) :: rest) (hcat : (rest.map fun v => v.category).sum ≤ 8) (hdd : d' < d) (kk : G x X σ' L (.int r :: rest) (pc + 3)) : G x X σ L st pc := g_callV h (n := 2) (ci := 5) (gd_V (lw_in 289 (by decide +kernel) rfl) (lw_in 290 (by decide +kernel) rfl) (lw_in 291 (by decide +kernel) rfl) (lw_in 1 (by decide +kernel) rfl) (lw_in 292 (by decide +kernel) rfl)) (by decide +kernel) rfl rfl (nX_lt (by decide)) (enc_0 X _ _) (by decide) hn hC hd hst hcat hdd kk
theorem clL_111 (h : Ok l x X cc RL d)  {av rest : List Value} {d' : Nat} {r : Int32} {σ' : fM} (hC : Ct l X yX5_lend cX5_lend 4 (some .int) d' (ra X (0) :: av) σ (some (.int r)) σ') (hn : av.length = 3) (hd : decode cc pc = .ok (.invokevirtual 111, 3)) (hst : st = av.reverse ++ ra X (0) :: rest) (hcat : (rest.map fun v => v.category).sum ≤ 8) (hdd : d' < d) (kk : G x X σ' L (.int r :: rest) (pc + 3)) : G x X σ L st pc := g_callV h (n := 3) (ci := 5) (gd_V (lw_in 294 (by decide +kernel) rfl) (lw_in 295 (by decide +kernel) rfl) (lw_in 296 (by decide +kernel) rfl) (lw_in 1 (by decide +kernel) rfl) (lw_in 297 (by decide +kernel) rfl)) (by decide +kernel) rfl rfl (nX_lt (by decide)) (enc_0 X _ _) (by decide) hn hC hd hst hcat hdd kk
theorem cl5_103 (h : Ok l x X cc RX5 d) {s : Nat} (hs : s < 6) {av rest : List Value} {d' : Nat} {r : Int32} {σ' : fM} (hC : Ct l X yX3_addLoan cX3_addLoan 5 (some .int) d' (ra X (iS s) :: av) σ (some (.int r)) σ') (hn : av.length = 3) (hd : decode cc pc = .ok (.invokevirtual 103, 3)) (hst : st = av.reverse ++ ra X (iS s) :: rest) (hcat : (rest.map fun v => v.category).sum ≤ 8) (hdd : d' < d) (kk : G x X σ' L (.int r :: rest) (pc + 3)) : G x X σ L st pc := g_callV h (n := 3) (ci := 3) (gd_V (lw_in 298 (by decide +kernel) rfl) (lw_in 299 (by decide +kernel) rfl) (lw_in 300 (by decide +kernel) rfl) (lw_in 2 (by decide +kernel) rfl) (lw_in 301 (by decide +kernel) rfl)) (by decide +kernel) rfl rfl (iS_lt hs) (enc_S X hs _ _) (by decide) hn hC hd hst hcat hdd kk
end CALLS
end
section
/-! rules of links -/
section CALLS
variable {l : Launch} {x : fC} {X : fX} {σ : fM} {L : List (Nat × Value)} {st : List Value} {pc : Nat} {cc : ByteArray} {own : String} {d : Nat}
theorem clL_117 (h : Ok l x X cc RL d)  {av rest : List Value} {d' : Nat} {r : Int32} {σ' : fM} (hC : Ct l X yX5_branch cX5_branch 3 (some .int) d' (ra X (0) :: av) σ (some (.int r)) σ') (hn : av.length = 2) (hd : decode cc pc = .ok (.invokevirtual 117, 3)) (hst : st = av.reverse ++ ra X (0) :: rest) (hcat : (rest.map fun v => v.category).sum ≤ 8) (hdd : d' < d) (kk : G x X σ' L (.int r :: rest) (pc + 3)) : G x X σ L st pc := g_callV h (n := 2) (ci := 5) (gd_V (lw_in 302 (by decide +kernel) rfl) (lw_in 303 (by decide +kernel) rfl) (lw_in 304 (by decide +kernel) rfl) (lw_in 1 (by decide +kernel) rfl) (lw_in 305 (by decide +kernel) rfl)) (by decide +kernel) rfl rfl (nX_lt (by decide)) (enc_0 X _ _) (by decide) hn hC hd hst hcat hdd kk
theorem cl5_107 (h : Ok l x X cc RX5 d) {av rest : List Value} {d' : Nat} {r : Int32} {σ' : fM} (hC : Ct l X yX5_isAddress cX5_isAddress 1 (some .boolean) d' av σ (some (.int r)) σ') (hn : av.length = 1) (hd : decode cc pc = .ok (.invokestatic 107, 3)) (hst : st = av.reverse ++ rest) (hcat : (rest.map fun v => v.category).sum ≤ 8) (hdd : d' < d) (kk : G x X σ' L (.int r :: rest) (pc + 3)) : G x X σ L st pc := g_callS h (n := 1) (gd_T (lw_in 308 (by decide +kernel) rfl)) (lw_in 306 (by decide +kernel) rfl) (lw_in 307 (by decide +kernel) rfl) (lw_in 1 (by decide +kernel) rfl) (by decide +kernel) (by decide) hn hC hd hst hcat hdd kk
theorem cl5_110 (h : Ok l x X cc RX5 d) {s : Nat} (hs : s < 6) {av rest : List Value} {d' : Nat} {r : Int32} {σ' : fM} (hC : Ct l X yX3_runBranch cX3_runBranch 4 (some .int) d' (ra X (iS s) :: av) σ (some (.int r)) σ') (hn : av.length = 2) (hd : decode cc pc = .ok (.invokevirtual 110, 3)) (hst : st = av.reverse ++ ra X (iS s) :: rest) (hcat : (rest.map fun v => v.category).sum ≤ 8) (hdd : d' < d) (kk : G x X σ' L (.int r :: rest) (pc + 3)) : G x X σ L st pc := g_callV h (n := 2) (ci := 3) (gd_V (lw_in 309 (by decide +kernel) rfl) (lw_in 310 (by decide +kernel) rfl) (lw_in 311 (by decide +kernel) rfl) (lw_in 2 (by decide +kernel) rfl) (lw_in 312 (by decide +kernel) rfl)) (by decide +kernel) rfl rfl (iS_lt hs) (enc_S X hs _ _) (by decide) hn hC hd hst hcat hdd kk
theorem cl3_117 (h : Ok l x X cc RX3 d) {s : Nat} (hs : s < 6) {av rest : List Value} {d' : Nat} {σ' : fM} (hC : Ct l X yX3_foretell cX3_foretell 6 none d' (ra X (iS s) :: av) σ none σ') (hn : av.length = 1) (hd : decode cc pc = .ok (.invokevirtual 117, 3)) (hst : st = av.reverse ++ ra X (iS s) :: rest) (hcat : (rest.map fun v => v.category).sum ≤ 8) (hdd : d' < d) (kk : G x X σ' L (rest) (pc + 3)) : G x X σ L st pc := g_callV h (n := 1) (ci := 3) (gd_V (lw_in 313 (by decide +kernel) rfl) (lw_in 314 (by decide +kernel) rfl) (lw_in 315 (by decide +kernel) rfl) (lw_in 2 (by decide +kernel) rfl) (lw_in 316 (by decide +kernel) rfl)) (by decide +kernel) rfl rfl (iS_lt hs) (enc_S X hs _ _) (by decide) hn hC hd hst hcat hdd kk
theorem cl3_97 (h : Ok l x X cc RX3 d) {s i : Nat} (hs : s < 6) (hi : i < 6) {av rest : List Value} {d' : Nat} {r : Int32} {σ' : fM} (hC : Ct l X yX1_stakeNow cX1_stakeNow 6 (some .int) d' (ra X (iO s i) :: av) σ (some (.int r)) σ') (hn : av.length = 3) (hd : decode cc pc = .ok (.invokevirtual 97, 3)) (hst : st = av.reverse ++ ra X (iO s i) :: rest) (hcat : (rest.map fun v => v.category).sum ≤ 8) (hdd : d' < d) (kk : G x X σ' L (.int r :: rest) (pc + 3)) : G x X σ L st pc := g_callV h (n := 3) (ci := 1) (gd_V (lw_in 317 (by decide +kernel) rfl) (lw_in 318 (by decide +kernel) rfl) (lw_in 319 (by decide +kernel) rfl) (lw_in 3 (by decide +kernel) rfl) (lw_in 320 (by decide +kernel) rfl)) (by decide +kernel) rfl rfl (iO_lt hs hi) (enc_O X hs hi _ _) (by decide) hn hC hd hst hcat hdd kk
theorem cl1_63 (h : Ok l x X cc RX1 d) {s i : Nat} (hs : s < 6) (hi : i < 6) {av rest : List Value} {d' : Nat} {r : Int32} {σ' : fM} (hC : Ct l X yX1_takesPart cX1_takesPart 1 (some .boolean) d' (ra X (iO s i) :: av) σ (some (.int r)) σ') (hn : av.length = 0) (hd : decode cc pc = .ok (.invokevirtual 63, 3)) (hst : st = av.reverse ++ ra X (iO s i) :: rest) (hcat : (rest.map fun v => v.category).sum ≤ 8) (hdd : d' < d) (kk : G x X σ' L (.int r :: rest) (pc + 3)) : G x X σ L st pc := g_callV h (n := 0) (ci := 1) (gd_V (lw_in 321 (by decide +kernel) rfl) (lw_in 322 (by decide +kernel) rfl) (lw_in 323 (by decide +kernel) rfl) (lw_in 3 (by decide +kernel) rfl) (lw_in 324 (by decide +kernel) rfl)) (by decide +kernel) rfl rfl (iO_lt hs hi) (enc_O X hs hi _ _) (by decide) hn hC hd hst hcat hdd kk
theorem cl1_49 (h : Ok l x X cc RX1 d) {s i : Nat} (hs : s < 6) (hi : i < 6) {av rest : List Value} {d' : Nat} {r : Int32} {σ' : fM} (hC : Ct l X yX1_hasSeat cX1_hasSeat 1 (some .boolean) d' (ra X (iO s i) :: av) σ (some (.int r)) σ') (hn : av.length = 0) (hd : decode cc pc = .ok (.invokevirtual 49, 3)) (hst : st = av.reverse ++ ra X (iO s i) :: rest) (hcat : (rest.map fun v => v.category).sum ≤ 8) (hdd : d' < d) (kk : G x X σ' L (.int r :: rest) (pc + 3)) : G x X σ L st pc := g_callV h (n := 0) (ci := 1) (gd_V (lw_in 325 (by decide +kernel) rfl) (lw_in 262 (by decide +kernel) rfl) (lw_in 263 (by decide +kernel) rfl) (lw_in 3 (by decide +kernel) rfl) (lw_in 264 (by decide +kernel) rfl)) (by decide +kernel) rfl rfl (iO_lt hs hi) (enc_O X hs hi _ _) (by decide) hn hC hd hst hcat hdd kk
theorem cl1_53 (h : Ok l x X cc RX1 d) {s i : Nat} (hs : s < 6) (hi : i < 6) {av rest : List Value} {d' : Nat} {r : Int32} {σ' : fM} (hC : Ct l X yX1_isRuined cX1_isRuined 1 (some .boolean) d' (ra X (iO s i) :: av) σ (some (.int r)) σ') (hn : av.length = 0) (hd : decode cc pc = .ok (.invokevirtual 53, 3)) (hst : st = av.reverse ++ ra X (iO s i) :: rest) (hcat : (rest.map fun v => v.category).sum ≤ 8) (hdd : d' < d) (kk : G x X σ' L (.int r :: rest) (pc + 3)) : G x X σ L st pc := g_callV h (n := 0) (ci := 1) (gd_V (lw_in 326 (by decide +kernel) rfl) (lw_in 327 (by decide +kernel) rfl) (lw_in 328 (by decide +kernel) rfl) (lw_in 3 (by decide +kernel) rfl) (lw_in 329 (by decide +kernel) rfl)) (by decide +kernel) rfl rfl (iO_lt hs hi) (enc_O X hs hi _ _) (by decide) hn hC hd hst hcat hdd kk
theorem cl1_56 (h : Ok l x X cc RX1 d) {s i : Nat} (hs : s < 6) (hi : i < 6) {av rest : List Value} {d' : Nat} {r : Int32} {σ' : fM} (hC : Ct l X yX1_hasTable cX1_hasTable 1 (some .boolean) d' (ra X (iO s i) :: av) σ (some (.int r)) σ') (hn : av.length = 0) (hd : decode cc pc = .ok (.invokevirtual 56, 3)) (hst : st = av.reverse ++ ra X (iO s i) :: rest) (hcat : (rest.map fun v => v.category).sum ≤ 8) (hdd : d' < d) (kk : G x X σ' L (.int r :: rest) (pc + 3)) : G x X σ L st pc := g_callV h (n := 0) (ci := 1) (gd_V (lw_in 330 (by decide +kernel) rfl) (lw_in 269 (by decide +kernel) rfl) (lw_in 270 (by decide +kernel) rfl) (lw_in 3 (by decide +kernel) rfl) (lw_in 271 (by decide +kernel) rfl)) (by decide +kernel) rfl rfl (iO_lt hs hi) (enc_O X hs hi _ _) (by decide) hn hC hd hst hcat hdd kk
theorem cl1_59 (h : Ok l x X cc RX1 d) {s i : Nat} (hs : s < 6) (hi : i < 6) {av rest : List Value} {d' : Nat} {r : Int32} {σ' : fM} (hC : Ct l X yX1_slotOf cX1_slotOf 4 (some .int) d' (ra X (iO s i) :: av) σ (some (.int r)) σ') (hn : av.length = 2) (hd : decode cc pc = .ok (.invokevirtual 59, 3)) (hst : st = av.reverse ++ ra X (iO s i) :: rest) (hcat : (rest.map fun v => v.category).sum ≤ 8) (hdd : d' < d) (kk : G x X σ' L (.int r :: rest) (pc + 3)) : G x X σ L st pc := g_callV h (n := 2) (ci := 1) (gd_V (lw_in 331 (by decide +kernel) rfl) (lw_in 332 (by decide +kernel) rfl) (lw_in 333 (by decide +kernel) rfl) (lw_in 3 (by decide +kernel) rfl) (lw_in 334 (by decide +kernel) rfl)) (by decide +kernel) rfl rfl (iO_lt hs hi) (enc_O X hs hi _ _) (by decide) hn hC hd hst hcat hdd kk
theorem cl3_107 (h : Ok l x X cc RX3 d) {s i : Nat} (hs : s < 6) (hi : i < 6) {av rest : List Value} {d' : Nat} {r : Int32} {σ' : fM} (hC : Ct l X yX1_wordOfItsOwn cX1_wordOfItsOwn 3 (some .int) d' (ra X (iO s i) :: av) σ (some (.int r)) σ') (hn : av.length = 2) (hd : decode cc pc = .ok (.invokevirtual 107, 3)) (hst : st = av.reverse ++ ra X (iO s i) :: rest) (hcat : (rest.map fun v => v.category).sum ≤ 8) (hdd : d' < d) (kk : G x X σ' L (.int r :: rest) (pc + 3)) : G x X σ L st pc := g_callV h (n := 2) (ci := 1) (gd_V (lw_in 338 (by decide +kernel) rfl) (lw_in 339 (by decide +kernel) rfl) (lw_in 340 (by decide +kernel) rfl) (lw_in 3 (by decide +kernel) rfl) (lw_in 341 (by decide +kernel) rfl)) (by decide +kernel) rfl rfl (iO_lt hs hi) (enc_O X hs hi _ _) (by decide) hn hC hd hst hcat hdd kk
theorem cl3_114 (h : Ok l x X cc RX3 d) {s i : Nat} (hs : s < 6) (hi : i < 6) {av rest : List Value} {d' : Nat} {r : Int32} {σ' : fM} (hC : Ct l X yX1_takesPart cX1_takesPart 1 (some .boolean) d' (ra X (iO s i) :: av) σ (some (.int r)) σ') (hn : av.length = 0) (hd : decode cc pc = .ok (.invokevirtual 114, 3)) (hst : st = av.reverse ++ ra X (iO s i) :: rest) (hcat : (rest.map fun v => v.category).sum ≤ 8) (hdd : d' < d) (kk : G x X σ' L (.int r :: rest) (pc + 3)) : G x X σ L st pc := g_callV h (n := 0) (ci := 1) (gd_V (lw_in 342 (by decide +kernel) rfl) (lw_in 322 (by decide +kernel) rfl) (lw_in 323 (by decide +kernel) rfl) (lw_in 3 (by decide +kernel) rfl) (lw_in 324 (by decide +kernel) rfl)) (by decide +kernel) rfl rfl (iO_lt hs hi) (enc_O X hs hi _ _) (by decide) hn hC hd hst hcat hdd kk
theorem cl3_121 (h : Ok l x X cc RX3 d) {s : Nat} (hs : s < 6) {av rest : List Value} {d' : Nat} {r : Int32} {σ' : fM} (hC : Ct l X yX3_settleBets cX3_settleBets 9 (some .int) d' (ra X (iS s) :: av) σ (some (.int r)) σ') (hn : av.length = 1) (hd : decode cc pc = .ok (.invokevirtual 121, 3)) (hst : st = av.reverse ++ ra X (iS s) :: rest) (hcat : (rest.map fun v => v.category).sum ≤ 8) (hdd : d' < d) (kk : G x X σ' L (.int r :: rest) (pc + 3)) : G x X σ L st pc := g_callV h (n := 1) (ci := 3) (gd_V (lw_in 343 (by decide +kernel) rfl) (lw_in 344 (by decide +kernel) rfl) (lw_in 345 (by decide +kernel) rfl) (lw_in 2 (by decide +kernel) rfl) (lw_in 346 (by decide +kernel) rfl)) (by decide +kernel) rfl rfl (iS_lt hs) (enc_S X hs _ _) (by decide) hn hC hd hst hcat hdd kk
theorem cl3_132 (h : Ok l x X cc RX3 d) {s : Nat} (hs : s < 6) {av rest : List Value} {d' : Nat} {r : Int32} {σ' : fM} (hC : Ct l X yX3_stakesOn cX3_stakesOn 4 (some .int) d' (ra X (iS s) :: av) σ (some (.int r)) σ') (hn : av.length = 1) (hd : decode cc pc = .ok (.invokevirtual 132, 3)) (hst : st = av.reverse ++ ra X (iS s) :: rest) (hcat : (rest.map fun v => v.category).sum ≤ 8) (hdd : d' < d) (kk : G x X σ' L (.int r :: rest) (pc + 3)) : G x X σ L st pc := g_callV h (n := 1) (ci := 3) (gd_V (lw_in 347 (by decide +kernel) rfl) (lw_in 348 (by decide +kernel) rfl) (lw_in 349 (by decide +kernel) rfl) (lw_in 2 (by decide +kernel) rfl) (lw_in 350 (by decide +kernel) rfl)) (by decide +kernel) rfl rfl (iS_lt hs) (enc_S X hs _ _) (by decide) hn hC hd hst hcat hdd kk
theorem cl3_135 (h : Ok l x X cc RX3 d) {s : Nat} (hs : s < 6) {av rest : List Value} {d' : Nat} {σ' : fM} (hC : Ct l X yX3_payCreditors cX3_payCreditors 7 none d' (ra X (iS s) :: av) σ none σ') (hn : av.length = 2) (hd : decode cc pc = .ok (.invokevirtual 135, 3)) (hst : st = av.reverse ++ ra X (iS s) :: rest) (hcat : (rest.map fun v => v.category).sum ≤ 8) (hdd : d' < d) (kk : G x X σ' L (rest) (pc + 3)) : G x X σ L st pc := g_callV h (n := 2) (ci := 3) (gd_V (lw_in 351 (by decide +kernel) rfl) (lw_in 352 (by decide +kernel) rfl) (lw_in 353 (by decide +kernel) rfl) (lw_in 2 (by decide +kernel) rfl) (lw_in 354 (by decide +kernel) rfl)) (by decide +kernel) rfl rfl (iS_lt hs) (enc_S X hs _ _) (by decide) hn hC hd hst hcat hdd kk
theorem cl3_138 (h : Ok l x X cc RX3 d) {s : Nat} (hs : s < 6) {av rest : List Value} {d' : Nat} {σ' : fM} (hC : Ct l X yX3_dropLoansPaidBack cX3_dropLoansPaidBack 3 none d' (ra X (iS s) :: av) σ none σ') (hn : av.length = 0) (hd : decode cc pc = .ok (.invokevirtual 138, 3)) (hst : st = av.reverse ++ ra X (iS s) :: rest) (hcat : (rest.map fun v => v.category).sum ≤ 8) (hdd : d' < d) (kk : G x X σ' L (rest) (pc + 3)) : G x X σ L st pc := g_callV h (n := 0) (ci := 3) (gd_V (lw_in 356 (by decide +kernel) rfl) (lw_in 357 (by decide +kernel) rfl) (lw_in 358 (by decide +kernel) rfl) (lw_in 2 (by decide +kernel) rfl) (lw_in 359 (by decide +kernel) rfl)) (by decide +kernel) rfl rfl (iS_lt hs) (enc_S X hs _ _) (by decide) hn hC hd hst hcat hdd kk
theorem cl3_125 (h : Ok l x X cc RX3 d) {s : Nat} (hs : s < 6) {av rest : List Value} {d' : Nat} {σ' : fM} (hC : Ct l X yX3_keepRecords cX3_keepRecords 3 none d' (ra X (iS s) :: av) σ none σ') (hn : av.length = 1) (hd : decode cc pc = .ok (.invokevirtual 125, 3)) (hst : st = av.reverse ++ ra X (iS s) :: rest) (hcat : (rest.map fun v => v.category).sum ≤ 8) (hdd : d' < d) (kk : G x X σ' L (rest) (pc + 3)) : G x X σ L st pc := g_callV h (n := 1) (ci := 3) (gd_V (lw_in 360 (by decide +kernel) rfl) (lw_in 361 (by decide +kernel) rfl) (lw_in 362 (by decide +kernel) rfl) (lw_in 2 (by decide +kernel) rfl) (lw_in 363 (by decide +kernel) rfl)) (by decide +kernel) rfl rfl (iS_lt hs) (enc_S X hs _ _) (by decide) hn hC hd hst hcat hdd kk
theorem cl3_146 (h : Ok l x X cc RX3 d) {s i : Nat} (hs : s < 6) (hi : i < 6) {av rest : List Value} {d' : Nat} {σ' : fM} (hC : Ct l X yX1_note cX1_note 2 none d' (ra X (iO s i) :: av) σ none σ') (hn : av.length = 1) (hd : decode cc pc = .ok (.invokevirtual 146, 3)) (hst : st = av.reverse ++ ra X (iO s i) :: rest) (hcat : (rest.map fun v => v.category).sum ≤ 8) (hdd : d' < d) (kk : G x X σ' L (rest) (pc + 3)) : G x X σ L st pc := g_callV h (n := 1) (ci := 1) (gd_V (lw_in 364 (by decide +kernel) rfl) (lw_in 365 (by decide +kernel) rfl) (lw_in 366 (by decide +kernel) rfl) (lw_in 3 (by decide +kernel) rfl) (lw_in 367 (by decide +kernel) rfl)) (by decide +kernel) rfl rfl (iO_lt hs hi) (enc_O X hs hi _ _) (by decide) hn hC hd hst hcat hdd kk
theorem cl3_128 (h : Ok l x X cc RX3 d) {s : Nat} (hs : s < 6) {av rest : List Value} {d' : Nat} {σ' : fM} (hC : Ct l X yX3_learnFrom cX3_learnFrom 4 none d' (ra X (iS s) :: av) σ none σ') (hn : av.length = 2) (hd : decode cc pc = .ok (.invokevirtual 128, 3)) (hst : st = av.reverse ++ ra X (iS s) :: rest) (hcat : (rest.map fun v => v.category).sum ≤ 8) (hdd : d' < d) (kk : G x X σ' L (rest) (pc + 3)) : G x X σ L st pc := g_callV h (n := 2) (ci := 3) (gd_V (lw_in 369 (by decide +kernel) rfl) (lw_in 370 (by decide +kernel) rfl) (lw_in 371 (by decide +kernel) rfl) (lw_in 2 (by decide +kernel) rfl) (lw_in 372 (by decide +kernel) rfl)) (by decide +kernel) rfl rfl (iS_lt hs) (enc_S X hs _ _) (by decide) hn hC hd hst hcat hdd kk
theorem cl3_150 (h : Ok l x X cc RX3 d) {s i : Nat} (hs : s < 6) (hi : i < 6) {av rest : List Value} {d' : Nat} {r : Int32} {σ' : fM} (hC : Ct l X yX1_hasTable cX1_hasTable 1 (some .boolean) d' (ra X (iO s i) :: av) σ (some (.int r)) σ') (hn : av.length = 0) (hd : decode cc pc = .ok (.invokevirtual 150, 3)) (hst : st = av.reverse ++ ra X (iO s i) :: rest) (hcat : (rest.map fun v => v.category).sum ≤ 8) (hdd : d' < d) (kk : G x X σ' L (.int r :: rest) (pc + 3)) : G x X σ L st pc := g_callV h (n := 0) (ci := 1) (gd_V (lw_in 373 (by decide +kernel) rfl) (lw_in 269 (by decide +kernel) rfl) (lw_in 270 (by decide +kernel) rfl) (lw_in 3 (by decide +kernel) rfl) (lw_in 271 (by decide +kernel) rfl)) (by decide +kernel) rfl rfl (iO_lt hs hi) (enc_O X hs hi _ _) (by decide) hn hC hd hst hcat hdd kk
theorem cl3_153 (h : Ok l x X cc RX3 d) {s i : Nat} (hs : s < 6) (hi : i < 6) {av rest : List Value} {d' : Nat} {σ' : fM} (hC : Ct l X yX1_learn cX1_learn 5 none d' (ra X (iO s i) :: av) σ none σ') (hn : av.length = 3) (hd : decode cc pc = .ok (.invokevirtual 153, 3)) (hst : st = av.reverse ++ ra X (iO s i) :: rest) (hcat : (rest.map fun v => v.category).sum ≤ 8) (hdd : d' < d) (kk : G x X σ' L (rest) (pc + 3)) : G x X σ L st pc := g_callV h (n := 3) (ci := 1) (gd_V (lw_in 374 (by decide +kernel) rfl) (lw_in 375 (by decide +kernel) rfl) (lw_in 376 (by decide +kernel) rfl) (lw_in 3 (by decide +kernel) rfl) (lw_in 377 (by decide +kernel) rfl)) (by decide +kernel) rfl rfl (iO_lt hs hi) (enc_O X hs hi _ _) (by decide) hn hC hd hst hcat hdd kk
theorem clL_90 (h : Ok l x X cc RL d) {av rest : List Value} {d' : Nat} {r : Int32} {σ' : fM} (hC : Ct l X yL_cell cL_cell 2 (some .int) d' av σ (some (.int r)) σ') (hn : av.length = 2) (hd : decode cc pc = .ok (.invokestatic 90, 3)) (hst : st = av.reverse ++ rest) (hcat : (rest.map fun v => v.category).sum ≤ 8) (hdd : d' < d) (kk : G x X σ' L (.int r :: rest) (pc + 3)) : G x X σ L st pc := g_callS h (n := 2) (gd_T (lw_in 383 (by decide +kernel) rfl)) (lw_in 381 (by decide +kernel) rfl) (lw_in 382 (by decide +kernel) rfl) (lw_in 0 (by decide +kernel) rfl) (by decide +kernel) (by decide) hn hC hd hst hcat hdd kk
theorem clL_94 (h : Ok l x X cc RL d) {av rest : List Value} {d' : Nat} {r : Int32} {σ' : fM} (hC : Ct l X yL_low cL_low 2 (some .int) d' av σ (some (.int r)) σ') (hn : av.length = 2) (hd : decode cc pc = .ok (.invokestatic 94, 3)) (hst : st = av.reverse ++ rest) (hcat : (rest.map fun v => v.category).sum ≤ 8) (hdd : d' < d) (kk : G x X σ' L (.int r :: rest) (pc + 3)) : G x X σ L st pc := g_callS h (n := 2) (gd_T (lw_in 388 (by decide +kernel) rfl)) (lw_in 386 (by decide +kernel) rfl) (lw_in 387 (by decide +kernel) rfl) (lw_in 0 (by decide +kernel) rfl) (by decide +kernel) (by decide) hn hC hd hst hcat hdd kk
theorem clL_24 (h : Ok l x X cc RL d) {av rest : List Value} {d' : Nat} {r : Int32} {σ' : fM} (hC : Ct l X yL_table cL_table 2 (some .boolean) d' av σ (some (.int r)) σ') (hn : av.length = 2) (hd : decode cc pc = .ok (.invokestatic 24, 3)) (hst : st = av.reverse ++ rest) (hcat : (rest.map fun v => v.category).sum ≤ 8) (hdd : d' < d) (kk : G x X σ' L (.int r :: rest) (pc + 3)) : G x X σ L st pc := g_callS h (n := 2) (gd_T (lw_in 392 (by decide +kernel) rfl)) (lw_in 390 (by decide +kernel) rfl) (lw_in 391 (by decide +kernel) rfl) (lw_in 0 (by decide +kernel) rfl) (by decide +kernel) (by decide) hn hC hd hst hcat hdd kk
theorem clL_74 (h : Ok l x X cc RL d) {av rest : List Value} {d' : Nat} {r : Int32} {σ' : fM} (hC : Ct l X yL_branch cL_branch 13 (some .int) d' av σ (some (.int r)) σ') (hn : av.length = 7) (hd : decode cc pc = .ok (.invokestatic 74, 3)) (hst : st = av.reverse ++ rest) (hcat : (rest.map fun v => v.category).sum ≤ 8) (hdd : d' < d) (kk : G x X σ' L (.int r :: rest) (pc + 3)) : G x X σ L st pc := g_callS h (n := 7) (gd_T (lw_in 395 (by decide +kernel) rfl)) (lw_in 393 (by decide +kernel) rfl) (lw_in 394 (by decide +kernel) rfl) (lw_in 0 (by decide +kernel) rfl) (by decide +kernel) (by decide) hn hC hd hst hcat hdd kk
theorem clL_27 (h : Ok l x X cc RL d) {av rest : List Value} {d' : Nat} {r : Int32} {σ' : fM} (hC : Ct l X yL_says cL_says 8 (some .int) d' av σ (some (.int r)) σ') (hn : av.length = 5) (hd : decode cc pc = .ok (.invokestatic 27, 3)) (hst : st = av.reverse ++ rest) (hcat : (rest.map fun v => v.category).sum ≤ 8) (hdd : d' < d) (kk : G x X σ' L (.int r :: rest) (pc + 3)) : G x X σ L st pc := g_callS h (n := 5) (gd_T (lw_in 398 (by decide +kernel) rfl)) (lw_in 396 (by decide +kernel) rfl) (lw_in 397 (by decide +kernel) rfl) (lw_in 0 (by decide +kernel) rfl) (by decide +kernel) (by decide) hn hC hd hst hcat hdd kk
theorem clL_10 (h : Ok l x X cc RL d) {av rest : List Value} {d' : Nat} {r : Int32} {σ' : fM} (hC : Ct l X yL_index cL_index 6 (some .int) d' av σ (some (.int r)) σ') (hn : av.length = 4) (hd : decode cc pc = .ok (.invokestatic 10, 3)) (hst : st = av.reverse ++ rest) (hcat : (rest.map fun v => v.category).sum ≤ 8) (hdd : d' < d) (kk : G x X σ' L (.int r :: rest) (pc + 3)) : G x X σ L st pc := g_callS h (n := 4) (gd_T (lw_in 401 (by decide +kernel) rfl)) (lw_in 399 (by decide +kernel) rfl) (lw_in 400 (by decide +kernel) rfl) (lw_in 0 (by decide +kernel) rfl) (by decide +kernel) (by decide) hn hC hd hst hcat hdd kk
theorem clL_16 (h : Ok l x X cc RL d) {av rest : List Value} {d' : Nat} {r : Int32} {σ' : fM} (hC : Ct l X yL_in cL_in 2 (some .boolean) d' av σ (some (.int r)) σ') (hn : av.length = 2) (hd : decode cc pc = .ok (.invokestatic 16, 3)) (hst : st = av.reverse ++ rest) (hcat : (rest.map fun v => v.category).sum ≤ 8) (hdd : d' < d) (kk : G x X σ' L (.int r :: rest) (pc + 3)) : G x X σ L st pc := g_callS h (n := 2) (gd_T (lw_in 404 (by decide +kernel) rfl)) (lw_in 402 (by decide +kernel) rfl) (lw_in 403 (by decide +kernel) rfl) (lw_in 0 (by decide +kernel) rfl) (by decide +kernel) (by decide) hn hC hd hst hcat hdd kk
theorem clL_20 (h : Ok l x X cc RL d) {av rest : List Value} {d' : Nat} {r : Int32} {σ' : fM} (hC : Ct l X yL_says4 cL_says4 5 (some .int) d' av σ (some (.int r)) σ') (hn : av.length = 5) (hd : decode cc pc = .ok (.invokestatic 20, 3)) (hst : st = av.reverse ++ rest) (hcat : (rest.map fun v => v.category).sum ≤ 8) (hdd : d' < d) (kk : G x X σ' L (.int r :: rest) (pc + 3)) : G x X σ L st pc := g_callS h (n := 5) (gd_T (lw_in 407 (by decide +kernel) rfl)) (lw_in 405 (by decide +kernel) rfl) (lw_in 406 (by decide +kernel) rfl) (lw_in 0 (by decide +kernel) rfl) (by decide +kernel) (by decide) hn hC hd hst hcat hdd kk
theorem clL_30 (h : Ok l x X cc RL d) {av rest : List Value} {d' : Nat} {r : Int32} {σ' : fM} (hC : Ct l X yL_stake cL_stake 7 (some .int) d' av σ (some (.int r)) σ') (hn : av.length = 5) (hd : decode cc pc = .ok (.invokestatic 30, 3)) (hst : st = av.reverse ++ rest) (hcat : (rest.map fun v => v.category).sum ≤ 8) (hdd : d' < d) (kk : G x X σ' L (.int r :: rest) (pc + 3)) : G x X σ L st pc := g_callS h (n := 5) (gd_T (lw_in 410 (by decide +kernel) rfl)) (lw_in 408 (by decide +kernel) rfl) (lw_in 409 (by decide +kernel) rfl) (lw_in 0 (by decide +kernel) rfl) (by decide +kernel) (by decide) hn hC hd hst hcat hdd kk
theorem clL_33 (h : Ok l x X cc RL d) {av rest : List Value} {d' : Nat} {σ' : fM} (hC : Ct l X yL_pays cL_pays 10 none d' av σ none σ') (hn : av.length = 5) (hd : decode cc pc = .ok (.invokestatic 33, 3)) (hst : st = av.reverse ++ rest) (hcat : (rest.map fun v => v.category).sum ≤ 8) (hdd : d' < d) (kk : G x X σ' L (rest) (pc + 3)) : G x X σ L st pc := g_callS h (n := 5) (gd_T (lw_in 413 (by decide +kernel) rfl)) (lw_in 411 (by decide +kernel) rfl) (lw_in 412 (by decide +kernel) rfl) (lw_in 0 (by decide +kernel) rfl) (by decide +kernel) (by decide) hn hC hd hst hcat hdd kk
theorem clL_119 (h : Ok l x X cc RL d) {av rest : List Value} {d' : Nat} {r : Int32} {σ' : fM} (hC : Ct l X yL_same cL_same 15 (some .boolean) d' av σ (some (.int r)) σ') (hn : av.length = 6) (hd : decode cc pc = .ok (.invokestatic 119, 3)) (hst : st = av.reverse ++ rest) (hcat : (rest.map fun v => v.category).sum ≤ 8) (hdd : d' < d) (kk : G x X σ' L (.int r :: rest) (pc + 3)) : G x X σ L st pc := g_callS h (n := 6) (gd_T (lw_in 417 (by decide +kernel) rfl)) (lw_in 415 (by decide +kernel) rfl) (lw_in 416 (by decide +kernel) rfl) (lw_in 0 (by decide +kernel) rfl) (by decide +kernel) (by decide) hn hC hd hst hcat hdd kk
theorem clL_38 (h : Ok l x X cc RL d)  {av rest : List Value} {d' : Nat} {r : Int32} {σ' : fM} (hC : Ct l X yX5_oracleOf cX5_oracleOf 4 (some .int) d' (ra X (0) :: av) σ (some (.int r)) σ') (hn : av.length = 2) (hd : decode cc pc = .ok (.invokevirtual 38, 3)) (hst : st = av.reverse ++ ra X (0) :: rest) (hcat : (rest.map fun v => v.category).sum ≤ 8) (hdd : d' < d) (kk : G x X σ' L (.int r :: rest) (pc + 3)) : G x X σ L st pc := g_callV h (n := 2) (ci := 5) (gd_V (lw_in 418 (by decide +kernel) rfl) (lw_in 419 (by decide +kernel) rfl) (lw_in 420 (by decide +kernel) rfl) (lw_in 1 (by decide +kernel) rfl) (lw_in 421 (by decide +kernel) rfl)) (by decide +kernel) rfl rfl (nX_lt (by decide)) (enc_0 X _ _) (by decide) hn hC hd hst hcat hdd kk
theorem cl5_133 (h : Ok l x X cc RX5 d) {s : Nat} (hs : s < 6) {av rest : List Value} {d' : Nat} {r : Int32} {σ' : fM} (hC : Ct l X yX3_debtsOf cX3_debtsOf 4 (some .int) d' (ra X (iS s) :: av) σ (some (.int r)) σ') (hn : av.length = 1) (hd : decode cc pc = .ok (.invokevirtual 133, 3)) (hst : st = av.reverse ++ ra X (iS s) :: rest) (hcat : (rest.map fun v => v.category).sum ≤ 8) (hdd : d' < d) (kk : G x X σ' L (.int r :: rest) (pc + 3)) : G x X σ L st pc := g_callV h (n := 1) (ci := 3) (gd_V (lw_in 423 (by decide +kernel) rfl) (lw_in 424 (by decide +kernel) rfl) (lw_in 425 (by decide +kernel) rfl) (lw_in 2 (by decide +kernel) rfl) (lw_in 426 (by decide +kernel) rfl)) (by decide +kernel) rfl rfl (iS_lt hs) (enc_S X hs _ _) (by decide) hn hC hd hst hcat hdd kk
theorem cl5_136 (h : Ok l x X cc RX5 d) {s : Nat} (hs : s < 6) {av rest : List Value} {d' : Nat} {r : Int32} {σ' : fM} (hC : Ct l X yX3_claimsOf cX3_claimsOf 4 (some .int) d' (ra X (iS s) :: av) σ (some (.int r)) σ') (hn : av.length = 1) (hd : decode cc pc = .ok (.invokevirtual 136, 3)) (hst : st = av.reverse ++ ra X (iS s) :: rest) (hcat : (rest.map fun v => v.category).sum ≤ 8) (hdd : d' < d) (kk : G x X σ' L (.int r :: rest) (pc + 3)) : G x X σ L st pc := g_callV h (n := 1) (ci := 3) (gd_V (lw_in 427 (by decide +kernel) rfl) (lw_in 428 (by decide +kernel) rfl) (lw_in 429 (by decide +kernel) rfl) (lw_in 2 (by decide +kernel) rfl) (lw_in 430 (by decide +kernel) rfl)) (by decide +kernel) rfl rfl (iS_lt hs) (enc_S X hs _ _) (by decide) hn hC hd hst hcat hdd kk
theorem clL_45 (h : Ok l x X cc RL d)  {av rest : List Value} {d' : Nat} {r : Int32} {σ' : fM} (hC : Ct l X yX5_says cX5_says 3 (some .int) d' (ra X (0) :: av) σ (some (.int r)) σ') (hn : av.length = 2) (hd : decode cc pc = .ok (.invokevirtual 45, 3)) (hst : st = av.reverse ++ ra X (0) :: rest) (hcat : (rest.map fun v => v.category).sum ≤ 8) (hdd : d' < d) (kk : G x X σ' L (.int r :: rest) (pc + 3)) : G x X σ L st pc := g_callV h (n := 2) (ci := 5) (gd_V (lw_in 432 (by decide +kernel) rfl) (lw_in 433 (by decide +kernel) rfl) (lw_in 434 (by decide +kernel) rfl) (lw_in 1 (by decide +kernel) rfl) (lw_in 435 (by decide +kernel) rfl)) (by decide +kernel) rfl rfl (nX_lt (by decide)) (enc_0 X _ _) (by decide) hn hC hd hst hcat hdd kk
theorem cl5_179 (h : Ok l x X cc RX5 d) {s : Nat} (hs : s < 6) {av rest : List Value} {d' : Nat} {σ' : fM} (hC : Ct l X yX3_foretell cX3_foretell 6 none d' (ra X (iS s) :: av) σ none σ') (hn : av.length = 1) (hd : decode cc pc = .ok (.invokevirtual 179, 3)) (hst : st = av.reverse ++ ra X (iS s) :: rest) (hcat : (rest.map fun v => v.category).sum ≤ 8) (hdd : d' < d) (kk : G x X σ' L (rest) (pc + 3)) : G x X σ L st pc := g_callV h (n := 1) (ci := 3) (gd_V (lw_in 436 (by decide +kernel) rfl) (lw_in 314 (by decide +kernel) rfl) (lw_in 315 (by decide +kernel) rfl) (lw_in 2 (by decide +kernel) rfl) (lw_in 316 (by decide +kernel) rfl)) (by decide +kernel) rfl rfl (iS_lt hs) (enc_S X hs _ _) (by decide) hn hC hd hst hcat hdd kk
theorem clL_47 (h : Ok l x X cc RL d)  {av rest : List Value} {d' : Nat} {r : Int32} {σ' : fM} (hC : Ct l X yX5_stake cX5_stake 3 (some .int) d' (ra X (0) :: av) σ (some (.int r)) σ') (hn : av.length = 2) (hd : decode cc pc = .ok (.invokevirtual 47, 3)) (hst : st = av.reverse ++ ra X (0) :: rest) (hcat : (rest.map fun v => v.category).sum ≤ 8) (hdd : d' < d) (kk : G x X σ' L (.int r :: rest) (pc + 3)) : G x X σ L st pc := g_callV h (n := 2) (ci := 5) (gd_V (lw_in 437 (by decide +kernel) rfl) (lw_in 438 (by decide +kernel) rfl) (lw_in 439 (by decide +kernel) rfl) (lw_in 1 (by decide +kernel) rfl) (lw_in 440 (by decide +kernel) rfl)) (by decide +kernel) rfl rfl (nX_lt (by decide)) (enc_0 X _ _) (by decide) hn hC hd hst hcat hdd kk
theorem clL_49 (h : Ok l x X cc RL d)  {av rest : List Value} {d' : Nat} {r : Int32} {σ' : fM} (hC : Ct l X yX5_counter cX5_counter 4 (some .int) d' (ra X (0) :: av) σ (some (.int r)) σ') (hn : av.length = 2) (hd : decode cc pc = .ok (.invokevirtual 49, 3)) (hst : st = av.reverse ++ ra X (0) :: rest) (hcat : (rest.map fun v => v.category).sum ≤ 8) (hdd : d' < d) (kk : G x X σ' L (.int r :: rest) (pc + 3)) : G x X σ L st pc := g_callV h (n := 2) (ci := 5) (gd_V (lw_in 441 (by decide +kernel) rfl) (lw_in 442 (by decide +kernel) rfl) (lw_in 443 (by decide +kernel) rfl) (lw_in 1 (by decide +kernel) rfl) (lw_in 444 (by decide +kernel) rfl)) (by decide +kernel) rfl rfl (nX_lt (by decide)) (enc_0 X _ _) (by decide) hn hC hd hst hcat hdd kk
theorem cl5_139 (h : Ok l x X cc RX5 d) {s i : Nat} (hs : s < 6) (hi : i < 6) {av rest : List Value} {d' : Nat} {r : Int32} {σ' : fM} (hC : Ct l X yX1_tableSize cX1_tableSize 1 (some .int) d' (ra X (iO s i) :: av) σ (some (.int r)) σ') (hn : av.length = 0) (hd : decode cc pc = .ok (.invokevirtual 139, 3)) (hst : st = av.reverse ++ ra X (iO s i) :: rest) (hcat : (rest.map fun v => v.category).sum ≤ 8) (hdd : d' < d) (kk : G x X σ' L (.int r :: rest) (pc + 3)) : G x X σ L st pc := g_callV h (n := 0) (ci := 1) (gd_V (lw_in 445 (by decide +kernel) rfl) (lw_in 446 (by decide +kernel) rfl) (lw_in 447 (by decide +kernel) rfl) (lw_in 3 (by decide +kernel) rfl) (lw_in 448 (by decide +kernel) rfl)) (by decide +kernel) rfl rfl (iO_lt hs hi) (enc_O X hs hi _ _) (by decide) hn hC hd hst hcat hdd kk
theorem clL_52 (h : Ok l x X cc RL d)  {av rest : List Value} {d' : Nat} {r : Int32} {σ' : fM} (hC : Ct l X yX5_rich cX5_rich 3 (some .int) d' (ra X (0) :: av) σ (some (.int r)) σ') (hn : av.length = 1) (hd : decode cc pc = .ok (.invokevirtual 52, 3)) (hst : st = av.reverse ++ ra X (0) :: rest) (hcat : (rest.map fun v => v.category).sum ≤ 8) (hdd : d' < d) (kk : G x X σ' L (.int r :: rest) (pc + 3)) : G x X σ L st pc := g_callV h (n := 1) (ci := 5) (gd_V (lw_in 449 (by decide +kernel) rfl) (lw_in 450 (by decide +kernel) rfl) (lw_in 451 (by decide +kernel) rfl) (lw_in 1 (by decide +kernel) rfl) (lw_in 452 (by decide +kernel) rfl)) (by decide +kernel) rfl rfl (nX_lt (by decide)) (enc_0 X _ _) (by decide) hn hC hd hst hcat hdd kk
theorem cl5_176 (h : Ok l x X cc RX5 d) {s : Nat} (hs : s < 6) {av rest : List Value} {d' : Nat} {r : Int32} {σ' : fM} (hC : Ct l X yX3_richerThan cX3_richerThan 5 (some .int) d' (ra X (iS s) :: av) σ (some (.int r)) σ') (hn : av.length = 1) (hd : decode cc pc = .ok (.invokevirtual 176, 3)) (hst : st = av.reverse ++ ra X (iS s) :: rest) (hcat : (rest.map fun v => v.category).sum ≤ 8) (hdd : d' < d) (kk : G x X σ' L (.int r :: rest) (pc + 3)) : G x X σ L st pc := g_callV h (n := 1) (ci := 3) (gd_V (lw_in 453 (by decide +kernel) rfl) (lw_in 454 (by decide +kernel) rfl) (lw_in 455 (by decide +kernel) rfl) (lw_in 2 (by decide +kernel) rfl) (lw_in 456 (by decide +kernel) rfl)) (by decide +kernel) rfl rfl (iS_lt hs) (enc_S X hs _ _) (by decide) hn hC hd hst hcat hdd kk
theorem clL_56 (h : Ok l x X cc RL d)  {av rest : List Value} {d' : Nat} {r : Int32} {σ' : fM} (hC : Ct l X yX5_share cX5_share 4 (some .int) d' (ra X (0) :: av) σ (some (.int r)) σ') (hn : av.length = 1) (hd : decode cc pc = .ok (.invokevirtual 56, 3)) (hst : st = av.reverse ++ ra X (0) :: rest) (hcat : (rest.map fun v => v.category).sum ≤ 8) (hdd : d' < d) (kk : G x X σ' L (.int r :: rest) (pc + 3)) : G x X σ L st pc := g_callV h (n := 1) (ci := 5) (gd_V (lw_in 457 (by decide +kernel) rfl) (lw_in 458 (by decide +kernel) rfl) (lw_in 459 (by decide +kernel) rfl) (lw_in 1 (by decide +kernel) rfl) (lw_in 460 (by decide +kernel) rfl)) (by decide +kernel) rfl rfl (nX_lt (by decide)) (enc_0 X _ _) (by decide) hn hC hd hst hcat hdd kk
theorem cl5_173 (h : Ok l x X cc RX5 d) {av rest : List Value} {d' : Nat} {r : Int32} {σ' : fM} (hC : Ct l X yX5_bitsOfQuotient cX5_bitsOfQuotient 5 (some .int) d' av σ (some (.int r)) σ') (hn : av.length = 2) (hd : decode cc pc = .ok (.invokestatic 173, 3)) (hst : st = av.reverse ++ rest) (hcat : (rest.map fun v => v.category).sum ≤ 8) (hdd : d' < d) (kk : G x X σ' L (.int r :: rest) (pc + 3)) : G x X σ L st pc := g_callS h (n := 2) (gd_T (lw_in 463 (by decide +kernel) rfl)) (lw_in 461 (by decide +kernel) rfl) (lw_in 462 (by decide +kernel) rfl) (lw_in 1 (by decide +kernel) rfl) (by decide +kernel) (by decide) hn hC hd hst hcat hdd kk
theorem clL_61 (h : Ok l x X cc RL d)  {av rest : List Value} {d' : Nat} {r : Int32} {σ' : fM} (hC : Ct l X yX5_odds cX5_odds 4 (some .int) d' (ra X (0) :: av) σ (some (.int r)) σ') (hn : av.length = 1) (hd : decode cc pc = .ok (.invokevirtual 61, 3)) (hst : st = av.reverse ++ ra X (0) :: rest) (hcat : (rest.map fun v => v.category).sum ≤ 8) (hdd : d' < d) (kk : G x X σ' L (.int r :: rest) (pc + 3)) : G x X σ L st pc := g_callV h (n := 1) (ci := 5) (gd_V (lw_in 468 (by decide +kernel) rfl) (lw_in 469 (by decide +kernel) rfl) (lw_in 470 (by decide +kernel) rfl) (lw_in 1 (by decide +kernel) rfl) (lw_in 471 (by decide +kernel) rfl)) (by decide +kernel) rfl rfl (nX_lt (by decide)) (enc_0 X _ _) (by decide) hn hC hd hst hcat hdd kk
theorem cl5_189 (h : Ok l x X cc RX5 d) {s : Nat} (hs : s < 6) {av rest : List Value} {d' : Nat} {r : Int32} {σ' : fM} (hC : Ct l X yX3_stakesOn cX3_stakesOn 4 (some .int) d' (ra X (iS s) :: av) σ (some (.int r)) σ') (hn : av.length = 1) (hd : decode cc pc = .ok (.invokevirtual 189, 3)) (hst : st = av.reverse ++ ra X (iS s) :: rest) (hcat : (rest.map fun v => v.category).sum ≤ 8) (hdd : d' < d) (kk : G x X σ' L (.int r :: rest) (pc + 3)) : G x X σ L st pc := g_callV h (n := 1) (ci := 3) (gd_V (lw_in 472 (by decide +kernel) rfl) (lw_in 348 (by decide +kernel) rfl) (lw_in 349 (by decide +kernel) rfl) (lw_in 2 (by decide +kernel) rfl) (lw_in 350 (by decide +kernel) rfl)) (by decide +kernel) rfl rfl (iS_lt hs) (enc_S X hs _ _) (by decide) hn hC hd hst hcat hdd kk
theorem clL_64 (h : Ok l x X cc RL d)  {av rest : List Value} {d' : Nat} {r : Int32} {σ' : fM} (hC : Ct l X yX5_loanOf cX5_loanOf 4 (some .int) d' (ra X (0) :: av) σ (some (.int r)) σ') (hn : av.length = 2) (hd : decode cc pc = .ok (.invokevirtual 64, 3)) (hst : st = av.reverse ++ ra X (0) :: rest) (hcat : (rest.map fun v => v.category).sum ≤ 8) (hdd : d' < d) (kk : G x X σ' L (.int r :: rest) (pc + 3)) : G x X σ L st pc := g_callV h (n := 2) (ci := 5) (gd_V (lw_in 473 (by decide +kernel) rfl) (lw_in 474 (by decide +kernel) rfl) (lw_in 475 (by decide +kernel) rfl) (lw_in 1 (by decide +kernel) rfl) (lw_in 476 (by decide +kernel) rfl)) (by decide +kernel) rfl rfl (nX_lt (by decide)) (enc_0 X _ _) (by decide) hn hC hd hst hcat hdd kk
theorem clL_67 (h : Ok l x X cc RL d)  {av rest : List Value} {d' : Nat} {r : Int32} {σ' : fM} (hC : Ct l X yX5_count cX5_count 2 (some .int) d' (ra X (0) :: av) σ (some (.int r)) σ') (hn : av.length = 1) (hd : decode cc pc = .ok (.invokevirtual 67, 3)) (hst : st = av.reverse ++ ra X (0) :: rest) (hcat : (rest.map fun v => v.category).sum ≤ 8) (hdd : d' < d) (kk : G x X σ' L (.int r :: rest) (pc + 3)) : G x X σ L st pc := g_callV h (n := 1) (ci := 5) (gd_V (lw_in 477 (by decide +kernel) rfl) (lw_in 478 (by decide +kernel) rfl) (lw_in 479 (by decide +kernel) rfl) (lw_in 1 (by decide +kernel) rfl) (lw_in 480 (by decide +kernel) rfl)) (by decide +kernel) rfl rfl (nX_lt (by decide)) (enc_0 X _ _) (by decide) hn hC hd hst hcat hdd kk
theorem cl5_202 (h : Ok l x X cc RX5 d) {s : Nat} (hs : s < 6) {av rest : List Value} {d' : Nat} {r : Int32} {σ' : fM} (hC : Ct l X yX3_seatedOracles cX3_seatedOracles 3 (some .int) d' (ra X (iS s) :: av) σ (some (.int r)) σ') (hn : av.length = 0) (hd : decode cc pc = .ok (.invokevirtual 202, 3)) (hst : st = av.reverse ++ ra X (iS s) :: rest) (hcat : (rest.map fun v => v.category).sum ≤ 8) (hdd : d' < d) (kk : G x X σ' L (.int r :: rest) (pc + 3)) : G x X σ L st pc := g_callV h (n := 0) (ci := 3) (gd_V (lw_in 481 (by decide +kernel) rfl) (lw_in 482 (by decide +kernel) rfl) (lw_in 483 (by decide +kernel) rfl) (lw_in 2 (by decide +kernel) rfl) (lw_in 484 (by decide +kernel) rfl)) (by decide +kernel) rfl rfl (iS_lt hs) (enc_S X hs _ _) (by decide) hn hC hd hst hcat hdd kk
theorem cl3_78 (h : Ok l x X cc RX3 d) {s i : Nat} (hs : s < 6) (hi : i < 6) {av rest : List Value} {d' : Nat} {r : Int32} {σ' : fM} (hC : Ct l X yX1_hasSeat cX1_hasSeat 1 (some .boolean) d' (ra X (iO s i) :: av) σ (some (.int r)) σ') (hn : av.length = 0) (hd : decode cc pc = .ok (.invokevirtual 78, 3)) (hst : st = av.reverse ++ ra X (iO s i) :: rest) (hcat : (rest.map fun v => v.category).sum ≤ 8) (hdd : d' < d) (kk : G x X σ' L (.int r :: rest) (pc + 3)) : G x X σ L st pc := g_callV h (n := 0) (ci := 1) (gd_V (lw_in 485 (by decide +kernel) rfl) (lw_in 262 (by decide +kernel) rfl) (lw_in 263 (by decide +kernel) rfl) (lw_in 3 (by decide +kernel) rfl) (lw_in 264 (by decide +kernel) rfl)) (by decide +kernel) rfl rfl (iO_lt hs hi) (enc_O X hs hi _ _) (by decide) hn hC hd hst hcat hdd kk
theorem cl5_205 (h : Ok l x X cc RX5 d) {s : Nat} (hs : s < 6) {av rest : List Value} {d' : Nat} {r : Int32} {σ' : fM} (hC : Ct l X yX3_ruinedOracles cX3_ruinedOracles 3 (some .int) d' (ra X (iS s) :: av) σ (some (.int r)) σ') (hn : av.length = 0) (hd : decode cc pc = .ok (.invokevirtual 205, 3)) (hst : st = av.reverse ++ ra X (iS s) :: rest) (hcat : (rest.map fun v => v.category).sum ≤ 8) (hdd : d' < d) (kk : G x X σ' L (.int r :: rest) (pc + 3)) : G x X σ L st pc := g_callV h (n := 0) (ci := 3) (gd_V (lw_in 486 (by decide +kernel) rfl) (lw_in 487 (by decide +kernel) rfl) (lw_in 488 (by decide +kernel) rfl) (lw_in 2 (by decide +kernel) rfl) (lw_in 489 (by decide +kernel) rfl)) (by decide +kernel) rfl rfl (iS_lt hs) (enc_S X hs _ _) (by decide) hn hC hd hst hcat hdd kk
theorem cl3_82 (h : Ok l x X cc RX3 d) {s i : Nat} (hs : s < 6) (hi : i < 6) {av rest : List Value} {d' : Nat} {r : Int32} {σ' : fM} (hC : Ct l X yX1_isRuined cX1_isRuined 1 (some .boolean) d' (ra X (iO s i) :: av) σ (some (.int r)) σ') (hn : av.length = 0) (hd : decode cc pc = .ok (.invokevirtual 82, 3)) (hst : st = av.reverse ++ ra X (iO s i) :: rest) (hcat : (rest.map fun v => v.category).sum ≤ 8) (hdd : d' < d) (kk : G x X σ' L (.int r :: rest) (pc + 3)) : G x X σ L st pc := g_callV h (n := 0) (ci := 1) (gd_V (lw_in 490 (by decide +kernel) rfl) (lw_in 327 (by decide +kernel) rfl) (lw_in 328 (by decide +kernel) rfl) (lw_in 3 (by decide +kernel) rfl) (lw_in 329 (by decide +kernel) rfl)) (by decide +kernel) rfl rfl (iO_lt hs hi) (enc_O X hs hi _ _) (by decide) hn hC hd hst hcat hdd kk
theorem cl5_211 (h : Ok l x X cc RX5 d) {s : Nat} (hs : s < 6) {av rest : List Value} {d' : Nat} {r : Int32} {σ' : fM} (hC : Ct l X yX3_allCoins cX3_allCoins 3 (some .int) d' (ra X (iS s) :: av) σ (some (.int r)) σ') (hn : av.length = 0) (hd : decode cc pc = .ok (.invokevirtual 211, 3)) (hst : st = av.reverse ++ ra X (iS s) :: rest) (hcat : (rest.map fun v => v.category).sum ≤ 8) (hdd : d' < d) (kk : G x X σ' L (.int r :: rest) (pc + 3)) : G x X σ L st pc := g_callV h (n := 0) (ci := 3) (gd_V (lw_in 491 (by decide +kernel) rfl) (lw_in 492 (by decide +kernel) rfl) (lw_in 493 (by decide +kernel) rfl) (lw_in 2 (by decide +kernel) rfl) (lw_in 494 (by decide +kernel) rfl)) (by decide +kernel) rfl rfl (iS_lt hs) (enc_S X hs _ _) (by decide) hn hC hd hst hcat hdd kk
theorem clL_123 (h : Ok l x X cc RL d) {av rest : List Value} {d' : Nat} {r : Int32} {σ' : fM} (hC : Ct l X yL_would cL_would 17 (some .boolean) d' av σ (some (.int r)) σ') (hn : av.length = 9) (hd : decode cc pc = .ok (.invokestatic 123, 3)) (hst : st = av.reverse ++ rest) (hcat : (rest.map fun v => v.category).sum ≤ 8) (hdd : d' < d) (kk : G x X σ' L (.int r :: rest) (pc + 3)) : G x X σ L st pc := g_callS h (n := 9) (gd_T (lw_in 497 (by decide +kernel) rfl)) (lw_in 495 (by decide +kernel) rfl) (lw_in 496 (by decide +kernel) rfl) (lw_in 0 (by decide +kernel) rfl) (by decide +kernel) (by decide) hn hC hd hst hcat hdd kk
theorem clL_70 (h : Ok l x X cc RL d) {av rest : List Value} {d' : Nat} {σ' : fM} (hC : Ct l X yL_copy cL_copy 3 none d' av σ none σ') (hn : av.length = 2) (hd : decode cc pc = .ok (.invokestatic 70, 3)) (hst : st = av.reverse ++ rest) (hcat : (rest.map fun v => v.category).sum ≤ 8) (hdd : d' < d) (kk : G x X σ' L (rest) (pc + 3)) : G x X σ L st pc := g_callS h (n := 2) (gd_T (lw_in 500 (by decide +kernel) rfl)) (lw_in 498 (by decide +kernel) rfl) (lw_in 499 (by decide +kernel) rfl) (lw_in 0 (by decide +kernel) rfl) (by decide +kernel) (by decide) hn hC hd hst hcat hdd kk
theorem clL_78 (h : Ok l x X cc RL d)  {av rest : List Value} {d' : Nat} {r : Int32} {σ' : fM} (hC : Ct l X yX5_gain cX5_gain 4 (some .int) d' (ra X (0) :: av) σ (some (.int r)) σ') (hn : av.length = 3) (hd : decode cc pc = .ok (.invokevirtual 78, 3)) (hst : st = av.reverse ++ ra X (0) :: rest) (hcat : (rest.map fun v => v.category).sum ≤ 8) (hdd : d' < d) (kk : G x X σ' L (.int r :: rest) (pc + 3)) : G x X σ L st pc := g_callV h (n := 3) (ci := 5) (gd_V (lw_in 501 (by decide +kernel) rfl) (lw_in 502 (by decide +kernel) rfl) (lw_in 503 (by decide +kernel) rfl) (lw_in 1 (by decide +kernel) rfl) (lw_in 504 (by decide +kernel) rfl)) (by decide +kernel) rfl rfl (nX_lt (by decide)) (enc_0 X _ _) (by decide) hn hC hd hst hcat hdd kk
theorem cl5_192 (h : Ok l x X cc RX5 d) {s : Nat} (hs : s < 6) {av rest : List Value} {d' : Nat} {σ' : fM} (hC : Ct l X yX3_copyFrom cX3_copyFrom 3 none d' (ra X (iS s) :: av) σ none σ') (hn : av.length = 1) (hd : decode cc pc = .ok (.invokevirtual 192, 3)) (hst : st = av.reverse ++ ra X (iS s) :: rest) (hcat : (rest.map fun v => v.category).sum ≤ 8) (hdd : d' < d) (kk : G x X σ' L (rest) (pc + 3)) : G x X σ L st pc := g_callV h (n := 1) (ci := 3) (gd_V (lw_in 505 (by decide +kernel) rfl) (lw_in 226 (by decide +kernel) rfl) (lw_in 227 (by decide +kernel) rfl) (lw_in 2 (by decide +kernel) rfl) (lw_in 228 (by decide +kernel) rfl)) (by decide +kernel) rfl rfl (iS_lt hs) (enc_S X hs _ _) (by decide) hn hC hd hst hcat hdd kk
theorem clL_82 (h : Ok l x X cc RL d)  {av rest : List Value} {d' : Nat} {r : Int32} {σ' : fM} (hC : Ct l X yX5_bestRow cX5_bestRow 9 (some .int) d' (ra X (0) :: av) σ (some (.int r)) σ') (hn : av.length = 4) (hd : decode cc pc = .ok (.invokevirtual 82, 3)) (hst : st = av.reverse ++ ra X (0) :: rest) (hcat : (rest.map fun v => v.category).sum ≤ 8) (hdd : d' < d) (kk : G x X σ' L (.int r :: rest) (pc + 3)) : G x X σ L st pc := g_callV h (n := 4) (ci := 5) (gd_V (lw_in 506 (by decide +kernel) rfl) (lw_in 507 (by decide +kernel) rfl) (lw_in 508 (by decide +kernel) rfl) (lw_in 1 (by decide +kernel) rfl) (lw_in 509 (by decide +kernel) rfl)) (by decide +kernel) rfl rfl (nX_lt (by decide)) (enc_0 X _ _) (by decide) hn hC hd hst hcat hdd kk
theorem cl5_198 (h : Ok l x X cc RX5 d)  {av rest : List Value} {d' : Nat} {r : Int32} {σ' : fM} (hC : Ct l X yX5_purseBehind cX5_purseBehind 6 (some .int) d' (ra X (0) :: av) σ (some (.int r)) σ') (hn : av.length = 4) (hd : decode cc pc = .ok (.invokevirtual 198, 3)) (hst : st = av.reverse ++ ra X (0) :: rest) (hcat : (rest.map fun v => v.category).sum ≤ 8) (hdd : d' < d) (kk : G x X σ' L (.int r :: rest) (pc + 3)) : G x X σ L st pc := g_callV h (n := 4) (ci := 5) (gd_V (lw_in 510 (by decide +kernel) rfl) (lw_in 512 (by decide +kernel) rfl) (lw_sel 1 (by decide +kernel) rfl) (lw_in 1 (by decide +kernel) rfl) (lw_in 513 (by decide +kernel) rfl)) (by decide +kernel) rfl rfl (nX_lt (by decide)) (enc_0 X _ _) (by decide) hn hC hd hst hcat hdd kk
theorem clL_86 (h : Ok l x X cc RL d)  {av rest : List Value} {d' : Nat} {r : Int32} {σ' : fM} (hC : Ct l X yX5_doom cX5_doom 6 (some .int) d' (ra X (0) :: av) σ (some (.int r)) σ') (hn : av.length = 3) (hd : decode cc pc = .ok (.invokevirtual 86, 3)) (hst : st = av.reverse ++ ra X (0) :: rest) (hcat : (rest.map fun v => v.category).sum ≤ 8) (hdd : d' < d) (kk : G x X σ' L (.int r :: rest) (pc + 3)) : G x X σ L st pc := g_callV h (n := 3) (ci := 5) (gd_V (lw_in 514 (by decide +kernel) rfl) (lw_in 515 (by decide +kernel) rfl) (lw_in 516 (by decide +kernel) rfl) (lw_in 1 (by decide +kernel) rfl) (lw_in 517 (by decide +kernel) rfl)) (by decide +kernel) rfl rfl (nX_lt (by decide)) (enc_0 X _ _) (by decide) hn hC hd hst hcat hdd kk
theorem cl5_195 (h : Ok l x X cc RX5 d) {s i : Nat} (hs : s < 6) (hi : i < 6) {av rest : List Value} {d' : Nat} {r : Int32} {σ' : fM} (hC : Ct l X yX1_isRuined cX1_isRuined 1 (some .boolean) d' (ra X (iO s i) :: av) σ (some (.int r)) σ') (hn : av.length = 0) (hd : decode cc pc = .ok (.invokevirtual 195, 3)) (hst : st = av.reverse ++ ra X (iO s i) :: rest) (hcat : (rest.map fun v => v.category).sum ≤ 8) (hdd : d' < d) (kk : G x X σ' L (.int r :: rest) (pc + 3)) : G x X σ L st pc := g_callV h (n := 0) (ci := 1) (gd_V (lw_in 518 (by decide +kernel) rfl) (lw_in 327 (by decide +kernel) rfl) (lw_in 328 (by decide +kernel) rfl) (lw_in 3 (by decide +kernel) rfl) (lw_in 329 (by decide +kernel) rfl)) (by decide +kernel) rfl rfl (iO_lt hs hi) (enc_O X hs hi _ _) (by decide) hn hC hd hst hcat hdd kk
end CALLS
end
section
/-! rules of the JDK's members, of answers that are truth values -/
section NAT
variable {l : Launch} {x : fC} {X : fX} {σ : fM} {L : List (Nat × Value)} {st : List Value} {pc : Nat} {cc : ByteArray} {own : String} {d : Nat}
theorem g_ifeqB (h : Ok l x X cc own d) {b : Bool} {off : Int} (tgt : Nat) (hd : decode cc pc = .ok (.ifCond .eq off, 3)) (ht : (pc : Int) + off = (tgt : Int)) (kt : b = false → G x X σ L st tgt) (kf : b = true → G x X σ L st (pc + 3)) : G x X σ L (.int (bi b) :: st) pc := g_ifeq h tgt hd ht (fun c => kt ((bi_0 b).mp c)) (fun c => kf (by cases b with | false => exact absurd rfl c | true => rfl))
theorem g_ifneB (h : Ok l x X cc own d) {b : Bool} {off : Int} (tgt : Nat) (hd : decode cc pc = .ok (.ifCond .ne off, 3)) (ht : (pc : Int) + off = (tgt : Int)) (kt : b = true → G x X σ L st tgt) (kf : b = false → G x X σ L st (pc + 3)) : G x X σ L (.int (bi b) :: st) pc := g_ifne h tgt hd ht (fun c => kt (by cases b with | false => exact absurd rfl c | true => rfl)) (fun c => kf ((bi_0 b).mp c))
theorem g_min (h : Ok l x X cc own d) {idx : Nat} {a b : Int32} (hw : Cond.methodLink own idx Lib.Math.min.name ∈ lw_gd) (hd : decode cc pc = .ok (.invokestatic idx, 3)) (h0 : 0 < d) (hcat : (st.map fun v => v.category).sum ≤ 8) (k : G x X σ L (.int (if b < a then b else a) :: st) (pc + 3)) : G x X σ L (.int b :: .int a :: st) pc := fun H locs ls hP hS hl =>
  va_mmin h.hx h.hb (h.hml.trans hl.1.symm) h.ho (h.hts _ hw) (h.hts _ (lw_in 336 (by decide +kernel) rfl)) (h.hts _ (lw_in 8 (by decide +kernel) rfl)) (h.hts _ (lw_in 337 (by decide +kernel) rfl)) (by have := h.hF; omega) (by have := h.hF; omega) h.hC.1 h.hC.2 hd (k H locs ls hP hS hl)
theorem g_max (h : Ok l x X cc own d) {idx : Nat} {a b : Int32} (hw : Cond.methodLink own idx Lib.Math.max.name ∈ lw_gd) (hd : decode cc pc = .ok (.invokestatic idx, 3)) (h0 : 0 < d) (hcat : (st.map fun v => v.category).sum ≤ 8) (k : G x X σ L (.int (if a < b then b else a) :: st) (pc + 3)) : G x X σ L (.int b :: .int a :: st) pc := fun H locs ls hP hS hl =>
  va_mmax h.hx h.hb (h.hml.trans hl.1.symm) h.ho (h.hts _ hw) (h.hts _ (lw_in 379 (by decide +kernel) rfl)) (h.hts _ (lw_in 8 (by decide +kernel) rfl)) (h.hts _ (lw_in 380 (by decide +kernel) rfl)) (by have := h.hF; omega) (by have := h.hF; omega) h.hC.1 h.hC.2 hd (k H locs ls hP hS hl)
theorem g_min1_66 (h : Ok l x X cc RX1 d) {a b : Int32} (hd : decode cc pc = .ok (.invokestatic 66, 3)) (h0 : 0 < d) (hcat : (st.map fun v => v.category).sum ≤ 8) (k : G x X σ L (.int (if b < a then b else a) :: st) (pc + 3)) : G x X σ L (.int b :: .int a :: st) pc := g_min h (lw_in 335 (by decide +kernel) rfl) hd h0 hcat k
theorem g_min3_141 (h : Ok l x X cc RX3 d) {a b : Int32} (hd : decode cc pc = .ok (.invokestatic 141, 3)) (h0 : 0 < d) (hcat : (st.map fun v => v.category).sum ≤ 8) (k : G x X σ L (.int (if b < a then b else a) :: st) (pc + 3)) : G x X σ L (.int b :: .int a :: st) pc := g_min h (lw_in 355 (by decide +kernel) rfl) hd h0 hcat k
theorem g_max1_71 (h : Ok l x X cc RX1 d) {a b : Int32} (hd : decode cc pc = .ok (.invokestatic 71, 3)) (h0 : 0 < d) (hcat : (st.map fun v => v.category).sum ≤ 8) (k : G x X σ L (.int (if a < b then b else a) :: st) (pc + 3)) : G x X σ L (.int b :: .int a :: st) pc := g_max h (lw_in 378 (by decide +kernel) rfl) hd h0 hcat k
/-- a row of ints is put whole -/
def puR (σ : fM) (k : Nat) (row : Nat → Int32) : fM := (fun k' => if k' = k then row else σ.1 k', σ.2)
theorem puR_self (σ : fM) (k : Nat) (row : Nat → Int32) : (puR σ k row).1 k = row := by simp [puR]
theorem puR_ne {σ : fM} {k : Nat} {row : Nat → Int32} (k' : Nat) (h : k' ≠ k) : (puR σ k row).1 k' = σ.1 k' := by simp [puR, h]
/-- the first n ints are copied -/
def cpy (f g : Nat → Int32) (n : Nat) : Nat → Int32 := fun j => if j < n then f j else g j
theorem cpy_va (f g : Nat → Int32) (n : Nat) : va_cpy f g 0 0 n = cpy f g n := by
  funext j
  simp [va_cpy, cpy]
theorem g_copy (h : Ok l x X cc own d) {idx k0 k1 n n0 n1 : Nat} {i0 i1 i2 : Int32} (hw : Cond.methodLink own idx arraycopyName ∈ lw_gd) (hk0 : k0 < nX X) (hk1 : k1 < nX X) (he0 : ∀ row e, enc X k0 row e = .inl (X.2.2.1 0, n0, .inl row)) (he1 : ∀ row e, enc X k1 row e = .inl (X.2.2.1 0, n1, .inl row)) (e0 : i0 = nI 0) (e1 : i1 = nI 0) (e2 : i2 = nI n) (h0n : n ≤ n0) (h1n : n ≤ n1) (hn : n < 2 ^ 31)
    (hd : decode cc pc = .ok (.invokestatic idx, 3)) (h0 : 0 < d) (hcat : (st.map fun v => v.category).sum ≤ 8) (k : G x X (puR σ k1 (cpy (σ.1 k0) (σ.1 k1) n)) L st (pc + 3)) : G x X σ L (.int i2 :: .int i1 :: ra X k1 :: .int i0 :: ra X k0 :: st) pc := fun H locs ls hP hS hl => by
  subst e0; subst e1; subst e2
  have z0 : (nI 0).toNatClampNeg = 0 := nI_clamp (by decide)
  have zn : (nI n).toNatClampNeg = n := nI_clamp hn
  have hfr : 1 ≤ (xR x).frames := by have := h.hF; omega
  have e : nativeFrameWords "java/lang/System" "arraycopy" 5 ≤ 11 := by decide
  have hlo : (st.map fun v => v.category).sum + (nativeFrameWords "java/lang/System" "arraycopy" 5 + 11) ≤ (xR x).locals := by have := h.hF; omega
  have a1 : (nI 0).toNatClampNeg + (nI n).toNatClampNeg ≤ n0 := by rw [z0, zn]; omega
  have a2 : (nI 0).toNatClampNeg + (nI n).toNatClampNeg ≤ n1 := by rw [z0, zn]; omega
  refine va_copyi (ty := .int) h.hx h.hb (h.hml.trans hl.1.symm) h.ho (h.hts _ hw) (h.hts _ (lw_in 235 (by decide +kernel) rfl)) (h.hts _ (lw_in 234 (by decide +kernel) rfl)) (h.hts _ (lw_in 7 (by decide +kernel) rfl)) h.hK hP (wl_D h.hA σ) hS k0 k1 0 0 (by rw [wl_get hk0, he0]) (by rw [wl_get hk1, he1]) rfl rfl rfl (nI_pos (by decide)) (nI_pos (by decide)) (nI_pos hn) a1 a2 (fun _ _ => rfl) hfr hlo hd (fun H1 locs1 hP1 hD1 hS1 => k H1 locs1 ls ?_ hS1 hl)
  rw [z0, zn, cpy_va, wl_set (σ := σ) (σ' := puR σ k1 (cpy (σ.1 k0) (σ.1 k1) n)) (by rw [he1, puR_self]) (fun k' hne => puR_ne k' hne) (fun _ _ => rfl)] at hP1
  exact hP1
theorem g_alen (h : Ok l x X cc own d) {k n t : Nat} {ty : FieldType} (hk : k < nX X) (he : ∀ row e, enc X k row e = .inl (X.2.2.1 t, n, .inl row)) (ht : (fty X)[t]? = some (X.2.2.1 t, ty)) (hd : decode cc pc = .ok (.arraylength, 1)) (kk : G x X σ L (.int (nI n) :: st) (pc + 1)) : G x X σ L (ra X k :: st) pc := fun H locs ls hP hS hl =>
  va_alen (x := (n, .inl (σ.1 k))) h.hx h.hb h.hK hP k t (by rw [wl_get hk, he]) ht rfl hd (kk H locs ls hP hS hl)
theorem g_iinc1 (h : Ok l x X cc own d) {i : Nat} {v : Int32} (hd : decode cc pc = .ok (.iinc i 1, 3)) (hv : lk L i = some (.int v)) (hn : i < xL x) (k : G x X σ (ls1 L i (.int (v + 1))) st (pc + 3)) : G x X σ L st pc := g_iinc h hd hv hn k
theorem g_imulN (h : Ok l x X cc own d) {a b : Nat} (hd : decode cc pc = .ok (.imul, 1)) (k : G x X σ L (.int (nI (a * b)) :: st) (pc + 1)) : G x X σ L (.int (nI b) :: .int (nI a) :: st) pc := g_imul h hd (by rw [pk_mul]; exact k)
theorem g_iaddN (h : Ok l x X cc own d) {a b : Nat} (hd : decode cc pc = .ok (.iadd, 1)) (k : G x X σ L (.int (nI (a + b)) :: st) (pc + 1)) : G x X σ L (.int (nI b) :: .int (nI a) :: st) pc := g_iadd h hd (by rw [nI_add]; exact k)
theorem lk_0 : some (Value.int 0) = some (Value.int (nI 0)) := by rw [nI_0]
end NAT
end
section
/-! the class of oracles: what its methods answer, over the ints f of an oracle, its table t -/
def oSeat (f : Nat → Int32) : Bool := decide (¬ f 3 = -1)
def oRuin (f : Nat → Int32) : Bool := decide (f 2 = 0)
def oIn (f : Nat → Int32) : Bool := oSeat f && !oRuin f
def oTab (f : Nat → Int32) : Bool := !decide (f 0 < 1) && !decide (3 < f 0)
def oSize (f : Nat → Int32) : Int32 := if oTab f = true then 1 <<< (f 1 &&& 31) else 0
def oMask (f : Nat → Int32) : Int32 := (1 <<< (f 1 &&& 31)) - 1
def oSlot (f : Nat → Int32) (a hi : Int32) : Int32 := if f 0 = 1 then a &&& oMask f else if f 0 = 2 then hi &&& oMask f else (a ^^^ hi) &&& oMask f
def oWord (f t : Nat → Int32) (a hi : Int32) : Int32 := if oTab f = true then (if t (oSlot f a hi).toNatClampNeg < 2 then 0 else 1) else f 1
def oSure (f t : Nat → Int32) (a hi : Int32) : Bool := oTab f && (decide (t (oSlot f a hi).toNatClampNeg = 0) || decide (t (oSlot f a hi).toNatClampNeg = 3))
def oStake (f t : Nat → Int32) (u a hi : Int32) : Int32 := if oIn f = true then (if (if oSure f t a hi = true then 2 * u else u) < f 2 then (if oSure f t a hi = true then 2 * u else u) else f 2) else 0
/-- the number of a table is in range -/
def oGood (f : Nat → Int32) : Prop := oTab f = true → ∃ n : Nat, n ≤ 5 ∧ f 1 = nI n
theorem oMask_b : ∀ n, n ≤ 5 → (((1 : Int32) <<< (nI n &&& 31)) - 1).toBitVec.toNat = 2 ^ n - 1 := by decide +kernel
theorem oSlot_in {f : Nat → Int32} (hg : oGood f) (ht : oTab f = true) (a hi : Int32) : vp_in (oSlot f a hi) 32 := by
  obtain ⟨n, hn, e⟩ := hg ht
  have key : ∀ z : Int32, vp_in (z &&& oMask f) 32 := by
    intro z
    unfold oMask
    rw [e]
    obtain ⟨j, hj, ej⟩ := pk_andE z n (oMask_b n hn)
    rw [ej]
    have h32 : 2 ^ n ≤ 2 ^ 5 := Nat.pow_le_pow_right (by decide) hn
    exact vp_in_nI (by omega) (by decide)
  unfold oSlot
  split
  · exact key _
  · split
    · exact key _
    · exact key _

/-- a counter behind a branch -/
def oLrn (c k : Int32) : Int32 := if k = 1 then (if c + 1 < 3 then c + 1 else 3) else (if 0 < c - 1 then c - 1 else 0)
/-- an oracle's ints behind a branch in which it was right (w not 0) or wrong -/
def oNote (f : Nat → Int32) (w : Int32) : Nat → Int32 :=
  let f1 := if w = 0 then upd f 6 (f 6 + 1) else upd f 5 (f 5 + 1)
  let f2 := upd f1 7 ((2 * f1 7 + (if w = 0 then 0 else 1)) &&& 65535)
  if f2 2 = 0 then upd f2 8 (f2 8 + 1) else f2
def oBegin (f : Nat → Int32) (k n p : Int32) : Nat → Int32 := upd (upd (upd (upd (upd (upd (upd (upd (upd f 0 k) 1 n) 2 p) 3 (-1)) 4 (-1)) 5 0) 6 0) 7 0) 8 0
/-- the ints of an oracle that are copied -/
def oCopy (f g : Nat → Int32) : Nat → Int32 := upd (upd (upd (upd (upd (upd (upd (upd (upd g 0 (f 0)) 1 (f 1)) 2 (f 2)) 3 (f 3)) 4 (f 4)) 5 (f 5)) 6 (f 6)) 7 (f 7)) 8 (f 8)
def lCopy (f g : Nat → Int32) : Nat → Int32 := upd (upd (upd g 0 (f 0)) 1 (f 1)) 2 (f 2)
theorem pu_puR (σ : fM) (k j : Nat) (v : Int32) : pu σ k j v = puR σ k (upd (σ.1 k) j v) := by
  refine Prod.ext ?_ rfl
  funext k' j'
  by_cases hk : k' = k
  · subst hk
    simp [pu, puR, upd]
  · simp [pu, puR, hk]
theorem puR_puR (σ : fM) (k : Nat) (r r' : Nat → Int32) : puR (puR σ k r) k r' = puR σ k r' := by
  refine Prod.ext ?_ rfl
  funext k'
  by_cases hk : k' = k <;> simp [puR, hk]
theorem puR_id (σ : fM) (k : Nat) : puR σ k (σ.1 k) = σ := by
  refine Prod.ext ?_ rfl
  funext k'
  by_cases hk : k' = k
  · subst hk; simp [puR]
  · simp [puR, hk]
theorem puR_comm (σ : fM) {k k' : Nat} (h : k ≠ k') (r r' : Nat → Int32) : puR (puR σ k r) k' r' = puR (puR σ k' r') k r := by
  refine Prod.ext ?_ rfl
  funext q
  by_cases h1 : q = k
  · subst h1
    simp [puR, h]
  · by_cases h2 : q = k'
    · subst h2; simp [puR, h1]
    · simp [puR, h1, h2]
theorem upd_s (f : Nat → Int32) (k : Nat) (x : Int32) : upd f k x k = x := by simp [upd]
theorem upd_n (f : Nat → Int32) (k j : Nat) (x : Int32) (h : ¬ j = k) : upd f k x j = f j := by simp [upd, h]
theorem iO_T (s i s' i' : Nat) : iO s i ≠ iT s' i' := by unfold iO iT; omega

set_option maxRecDepth 100000 in
set_option maxHeartbeats 4000000 in
theorem ct_X1_hasSeat {l : Launch} {X : fX} {σ : fM} {s i : Nat} (hs : s < 6) (hi : i < 6) : Ct l X yX1_hasSeat cX1_hasSeat 1 (some .boolean) 0 [ra X (iO s i)] σ (some (.int (bi (oSeat (σ.1 (iO s i)))))) σ := by
  refine Ct.of RX1 rfl (by decide) (Nat.le_of_ble_eq_true rfl) ?_
  intro x hL h hr
  refine g_sub [(0, ra X (iO s i))] ⟨rfl, trivial⟩ ?_
  refine g_aload_n h dX1_hasSeat_0 rfl ?_
  refine gf1_25 h (by omega) (by omega) dX1_hasSeat_1 ?_
  refine g_iconst (v := (-1)) h dX1_hasSeat_4 (by decide) ?_
  refine g_iceq h 12 dX1_hasSeat_5 (by decide) (fun c5 => ?_) (fun c5 => ?_)
  · refine g_iconst (v := 0) h dX1_hasSeat_12 (by decide) ?_
    exact g_zret h hr (by first | rfl | exact bi_n _) dX1_hasSeat_13 (by first | (simp [oSeat, bi, c5]; done) | (simp_all [oSeat, bi]; done)) rfl
  · refine g_iconst (v := 1) h dX1_hasSeat_8 (by decide) ?_
    refine g_goto h 13 dX1_hasSeat_9 (by decide) ?_
    exact g_zret h hr (by first | rfl | exact bi_n _) dX1_hasSeat_13 (by first | (simp [oSeat, bi, c5]; done) | (simp_all [oSeat, bi]; done)) rfl

set_option maxRecDepth 100000 in
set_option maxHeartbeats 4000000 in
theorem ct_X1_isRuined {l : Launch} {X : fX} {σ : fM} {s i : Nat} (hs : s < 6) (hi : i < 6) : Ct l X yX1_isRuined cX1_isRuined 1 (some .boolean) 0 [ra X (iO s i)] σ (some (.int (bi (oRuin (σ.1 (iO s i)))))) σ := by
  refine Ct.of RX1 rfl (by decide) (Nat.le_of_ble_eq_true rfl) ?_
  intro x hL h hr
  refine g_sub [(0, ra X (iO s i))] ⟨rfl, trivial⟩ ?_
  refine g_aload_n h dX1_isRuined_0 rfl ?_
  refine gf1_22 h (by omega) (by omega) dX1_isRuined_1 ?_
  refine g_ifne h 11 dX1_isRuined_4 (by decide) (fun c4 => ?_) (fun c4 => ?_)
  · refine g_iconst (v := 0) h dX1_isRuined_11 (by decide) ?_
    exact g_zret h hr (by first | rfl | exact bi_n _) dX1_isRuined_12 (by first | (simp [oRuin, bi, c4]; done) | (simp_all [oRuin, bi]; done)) rfl
  · refine g_iconst (v := 1) h dX1_isRuined_7 (by decide) ?_
    refine g_goto h 12 dX1_isRuined_8 (by decide) ?_
    exact g_zret h hr (by first | rfl | exact bi_n _) dX1_isRuined_12 (by first | (simp [oRuin, bi, c4]; done) | (simp_all [oRuin, bi]; done)) rfl

set_option maxRecDepth 100000 in
set_option maxHeartbeats 4000000 in
theorem ct_X1_takesPart {l : Launch} {X : fX} {σ : fM} {s i : Nat} (hs : s < 6) (hi : i < 6) : Ct l X yX1_takesPart cX1_takesPart 1 (some .boolean) 1 [ra X (iO s i)] σ (some (.int (bi (oIn (σ.1 (iO s i)))))) σ := by
  refine Ct.of RX1 rfl (by decide) (Nat.le_of_ble_eq_true rfl) ?_
  intro x hL h hr
  refine g_sub [(0, ra X (iO s i))] ⟨rfl, trivial⟩ ?_
  refine g_aload_n h dX1_takesPart_0 rfl ?_
  refine cl1_49 h (by omega) (by omega) (ct_X1_hasSeat (by omega) (by omega)) rfl dX1_takesPart_1 rfl (Nat.le_of_ble_eq_true rfl) (by decide) ?_
  refine g_ifeqB h 18 dX1_takesPart_4 (by decide) (fun c4 => ?_) (fun c4 => ?_)
  · refine g_iconst (v := 0) h dX1_takesPart_18 (by decide) ?_
    exact g_zret h hr (by first | rfl | exact bi_n _) dX1_takesPart_19 (by first | (simp [oIn, bi, c4]; done) | (simp_all [oIn, bi]; done)) rfl
  · refine g_aload_n h dX1_takesPart_7 rfl ?_
    refine cl1_53 h (by omega) (by omega) (ct_X1_isRuined (by omega) (by omega)) rfl dX1_takesPart_8 rfl (Nat.le_of_ble_eq_true rfl) (by decide) ?_
    refine g_ifneB h 18 dX1_takesPart_11 (by decide) (fun c11 => ?_) (fun c11 => ?_)
    · refine g_iconst (v := 0) h dX1_takesPart_18 (by decide) ?_
      exact g_zret h hr (by first | rfl | exact bi_n _) dX1_takesPart_19 (by first | (simp [oIn, bi, c4, c11]; done) | (simp_all [oIn, bi]; done)) rfl
    · refine g_iconst (v := 1) h dX1_takesPart_14 (by decide) ?_
      refine g_goto h 19 dX1_takesPart_15 (by decide) ?_
      exact g_zret h hr (by first | rfl | exact bi_n _) dX1_takesPart_19 (by first | (simp [oIn, bi, c4, c11]; done) | (simp_all [oIn, bi]; done)) rfl

set_option maxRecDepth 100000 in
set_option maxHeartbeats 4000000 in
theorem ct_X1_hasTable {l : Launch} {X : fX} {σ : fM} {s i : Nat} (hs : s < 6) (hi : i < 6) : Ct l X yX1_hasTable cX1_hasTable 1 (some .boolean) 0 [ra X (iO s i)] σ (some (.int (bi (oTab (σ.1 (iO s i)))))) σ := by
  refine Ct.of RX1 rfl (by decide) (Nat.le_of_ble_eq_true rfl) ?_
  intro x hL h hr
  refine g_sub [(0, ra X (iO s i))] ⟨rfl, trivial⟩ ?_
  refine g_aload_n h dX1_hasTable_0 rfl ?_
  refine gf1_15 h (by omega) (by omega) dX1_hasTable_1 ?_
  refine g_iconst (v := 1) h dX1_hasTable_4 (by decide) ?_
  refine g_iclt h 20 dX1_hasTable_5 (by decide) (fun c5 => ?_) (fun c5 => ?_)
  · refine g_iconst (v := 0) h dX1_hasTable_20 (by decide) ?_
    exact g_zret h hr (by first | rfl | exact bi_n _) dX1_hasTable_21 (by first | (simp [oTab, bi, c5]; done) | (simp_all [oTab, bi]; done)) rfl
  · refine g_aload_n h dX1_hasTable_8 rfl ?_
    refine gf1_15 h (by omega) (by omega) dX1_hasTable_9 ?_
    refine g_iconst (v := 3) h dX1_hasTable_12 (by decide) ?_
    refine g_icgt h 20 dX1_hasTable_13 (by decide) (fun c13 => ?_) (fun c13 => ?_)
    · refine g_iconst (v := 0) h dX1_hasTable_20 (by decide) ?_
      exact g_zret h hr (by first | rfl | exact bi_n _) dX1_hasTable_21 (by first | (simp [oTab, bi, c5, c13]; done) | (simp_all [oTab, bi]; done)) rfl
    · refine g_iconst (v := 1) h dX1_hasTable_16 (by decide) ?_
      refine g_goto h 21 dX1_hasTable_17 (by decide) ?_
      exact g_zret h hr (by first | rfl | exact bi_n _) dX1_hasTable_21 (by first | (simp [oTab, bi, c5, c13]; done) | (simp_all [oTab, bi]; done)) rfl

set_option maxRecDepth 100000 in
set_option maxHeartbeats 4000000 in
theorem ct_X1_tableSize {l : Launch} {X : fX} {σ : fM} {s i : Nat} (hs : s < 6) (hi : i < 6) : Ct l X yX1_tableSize cX1_tableSize 1 (some .int) 1 [ra X (iO s i)] σ (some (.int (oSize (σ.1 (iO s i))))) σ := by
  refine Ct.of RX1 rfl (by decide) (Nat.le_of_ble_eq_true rfl) ?_
  intro x hL h hr
  refine g_sub [(0, ra X (iO s i))] ⟨rfl, trivial⟩ ?_
  refine g_aload_n h dX1_tableSize_0 rfl ?_
  refine cl1_56 h (by omega) (by omega) (ct_X1_hasTable (by omega) (by omega)) rfl dX1_tableSize_1 rfl (Nat.le_of_ble_eq_true rfl) (by decide) ?_
  refine g_ifeqB h 16 dX1_tableSize_4 (by decide) (fun c4 => ?_) (fun c4 => ?_)
  · refine g_iconst (v := 0) h dX1_tableSize_16 (by decide) ?_
    exact g_iret h hr dX1_tableSize_17 (by first | (simp [oSize, c4]; done) | (simp_all [oSize]; done)) rfl
  · refine g_iconst (v := 1) h dX1_tableSize_7 (by decide) ?_
    refine g_aload_n h dX1_tableSize_8 rfl ?_
    refine gf1_19 h (by omega) (by omega) dX1_tableSize_9 ?_
    refine g_ishl h dX1_tableSize_12 ?_
    refine g_goto h 17 dX1_tableSize_13 (by decide) ?_
    exact g_iret h hr dX1_tableSize_17 (by first | (simp [oSize, c4]; done) | (simp_all [oSize]; done)) rfl

set_option maxRecDepth 100000 in
set_option maxHeartbeats 4000000 in
theorem ct_X1_slotOf {l : Launch} {X : fX} {σ : fM} {s i : Nat} (hs : s < 6) (hi : i < 6) {a b : Int32} : Ct l X yX1_slotOf cX1_slotOf 4 (some .int) 0 [ra X (iO s i), .int a, .int b] σ (some (.int (oSlot (σ.1 (iO s i)) a b))) σ := by
  refine Ct.of RX1 rfl (by decide) (Nat.le_of_ble_eq_true rfl) ?_
  intro x hL h hr
  refine g_sub [(0, ra X (iO s i)), (1, .int a), (2, .int b)] ⟨rfl, rfl, rfl, trivial⟩ ?_
  refine g_iconst (v := 1) h dX1_slotOf_0 (by decide) ?_
  refine g_aload_n h dX1_slotOf_1 rfl ?_
  refine gf1_19 h (by omega) (by omega) dX1_slotOf_2 ?_
  refine g_ishl h dX1_slotOf_5 ?_
  refine g_iconst (v := 1) h dX1_slotOf_6 (by decide) ?_
  refine g_isub h dX1_slotOf_7 ?_
  refine g_istore_n h dX1_slotOf_8 (by rw [hL]; decide) ?_
  refine g_aload_n h dX1_slotOf_9 rfl ?_
  refine gf1_15 h (by omega) (by omega) dX1_slotOf_10 ?_
  refine g_iconst (v := 1) h dX1_slotOf_13 (by decide) ?_
  refine g_icne h 21 dX1_slotOf_14 (by decide) (fun c14 => ?_) (fun c14 => ?_)
  · refine g_aload_n h dX1_slotOf_21 rfl ?_
    refine gf1_15 h (by omega) (by omega) dX1_slotOf_22 ?_
    refine g_iconst (v := 2) h dX1_slotOf_25 (by decide) ?_
    refine g_icne h 33 dX1_slotOf_26 (by decide) (fun c26 => ?_) (fun c26 => ?_)
    · refine g_iload_n h dX1_slotOf_33 rfl ?_
      refine g_iload_n h dX1_slotOf_34 rfl ?_
      refine g_ixor h dX1_slotOf_35 ?_
      refine g_iload_n h dX1_slotOf_36 rfl ?_
      refine g_iand h dX1_slotOf_37 ?_
      exact g_iret h hr dX1_slotOf_38 (by first | (simp [oSlot, oMask, c14, c26]; done) | (simp_all [oSlot, oMask]; done)) rfl
    · refine g_iload_n h dX1_slotOf_29 rfl ?_
      refine g_goto h 36 dX1_slotOf_30 (by decide) ?_
      refine g_iload_n h dX1_slotOf_36 rfl ?_
      refine g_iand h dX1_slotOf_37 ?_
      exact g_iret h hr dX1_slotOf_38 (by first | (simp [oSlot, oMask, c14, c26]; done) | (simp_all [oSlot, oMask]; done)) rfl
  · refine g_iload_n h dX1_slotOf_17 rfl ?_
    refine g_iload_n h dX1_slotOf_18 rfl ?_
    refine g_iand h dX1_slotOf_19 ?_
    exact g_iret h hr dX1_slotOf_20 (by first | (simp [oSlot, oMask, c14]; done) | (simp_all [oSlot, oMask]; done)) rfl

set_option maxRecDepth 100000 in
set_option maxHeartbeats 4000000 in
theorem ct_X1_wordOfItsOwn {l : Launch} {X : fX} {σ : fM} {s i : Nat} (hs : s < 6) (hi : i < 6) {a b : Int32} (hg : oGood (σ.1 (iO s i))) : Ct l X yX1_wordOfItsOwn cX1_wordOfItsOwn 3 (some .int) 2 [ra X (iO s i), .int a, .int b] σ (some (.int (oWord (σ.1 (iO s i)) (σ.1 (iT s i)) a b))) σ := by
  refine Ct.of RX1 rfl (by decide) (Nat.le_of_ble_eq_true rfl) ?_
  intro x hL h hr
  refine g_sub [(0, ra X (iO s i)), (1, .int a), (2, .int b)] ⟨rfl, rfl, rfl, trivial⟩ ?_
  refine g_aload_n h dX1_wordOfItsOwn_0 rfl ?_
  refine cl1_56 h (by omega) (by omega) (ct_X1_hasTable (by omega) (by omega)) rfl dX1_wordOfItsOwn_1 rfl (Nat.le_of_ble_eq_true rfl) (by decide) ?_
  refine g_ifneB h 12 dX1_wordOfItsOwn_4 (by decide) (fun c4 => ?_) (fun c4 => ?_)
  · refine g_aload_n h dX1_wordOfItsOwn_12 rfl ?_
    refine gf1_9 h (by omega) (by omega) dX1_wordOfItsOwn_13 ?_
    refine g_aload_n h dX1_wordOfItsOwn_16 rfl ?_
    refine g_iload_n h dX1_wordOfItsOwn_17 rfl ?_
    refine g_iload_n h dX1_wordOfItsOwn_18 rfl ?_
    refine cl1_59 h (by omega) (by omega) (ct_X1_slotOf (by omega) (by omega)) rfl dX1_wordOfItsOwn_19 rfl (Nat.le_of_ble_eq_true rfl) (by decide) ?_
    refine g_ialdT h (by omega) (by omega) (oSlot_in hg c4 _ _) dX1_wordOfItsOwn_22 ?_
    refine g_iconst (v := 2) h dX1_wordOfItsOwn_23 (by decide) ?_
    refine g_iclt h 31 dX1_wordOfItsOwn_24 (by decide) (fun c24 => ?_) (fun c24 => ?_)
    · refine g_iconst (v := 0) h dX1_wordOfItsOwn_31 (by decide) ?_
      exact g_iret h hr dX1_wordOfItsOwn_32 (by first | (simp [oWord, c4, c24]; done) | (simp_all [oWord]; done)) rfl
    · refine g_iconst (v := 1) h dX1_wordOfItsOwn_27 (by decide) ?_
      refine g_goto h 32 dX1_wordOfItsOwn_28 (by decide) ?_
      exact g_iret h hr dX1_wordOfItsOwn_32 (by first | (simp [oWord, c4, c24]; done) | (simp_all [oWord]; done)) rfl
  · refine g_aload_n h dX1_wordOfItsOwn_7 rfl ?_
    refine gf1_19 h (by omega) (by omega) dX1_wordOfItsOwn_8 ?_
    exact g_iret h hr dX1_wordOfItsOwn_11 (by first | (simp [oWord, c4]; done) | (simp_all [oWord]; done)) rfl

set_option maxRecDepth 100000 in
set_option maxHeartbeats 4000000 in
theorem ct_X1_stakeNow {l : Launch} {X : fX} {σ : fM} {s i : Nat} (hs : s < 6) (hi : i < 6) {u a b : Int32} (hg : oGood (σ.1 (iO s i))) : Ct l X yX1_stakeNow cX1_stakeNow 6 (some .int) 2 [ra X (iO s i), .int u, .int a, .int b] σ (some (.int (oStake (σ.1 (iO s i)) (σ.1 (iT s i)) u a b))) σ := by
  refine Ct.of RX1 rfl (by decide) (Nat.le_of_ble_eq_true rfl) ?_
  intro x hL h hr
  refine g_sub [(0, ra X (iO s i)), (1, .int u), (2, .int a), (3, .int b)] ⟨rfl, rfl, rfl, rfl, trivial⟩ ?_
  refine g_aload_n h dX1_stakeNow_0 rfl ?_
  refine cl1_63 h (by omega) (by omega) (ct_X1_takesPart (by omega) (by omega)) rfl dX1_stakeNow_1 rfl (Nat.le_of_ble_eq_true rfl) (by decide) ?_
  refine g_ifneB h 9 dX1_stakeNow_4 (by decide) (fun c4 => ?_) (fun c4 => ?_)
  · refine g_iconst (v := 0) h dX1_stakeNow_9 (by decide) ?_
    refine g_istore h dX1_stakeNow_10 (by rw [hL]; decide) ?_
    refine g_aload_n h dX1_stakeNow_12 rfl ?_
    refine cl1_56 h (by omega) (by omega) (ct_X1_hasTable (by omega) (by omega)) rfl dX1_stakeNow_13 rfl (Nat.le_of_ble_eq_true rfl) (by decide) ?_
    refine g_ifeqB h 50 dX1_stakeNow_16 (by decide) (fun c16 => ?_) (fun c16 => ?_)
    · refine g_aload_n h dX1_stakeNow_50 rfl ?_
      refine gf1_22 h (by omega) (by omega) dX1_stakeNow_51 ?_
      refine g_iload h dX1_stakeNow_54 rfl ?_
      refine g_ifeq h 65 dX1_stakeNow_56 (by decide) (fun c56 => ?_) (fun c56 => ?_)
      · refine g_iload_n h dX1_stakeNow_65 rfl ?_
        refine g_min1_66 h dX1_stakeNow_66 (by decide) (Nat.le_of_ble_eq_true rfl) ?_
        exact g_iret h hr dX1_stakeNow_69 (by first | (simp [oStake, oSure, c4, c16, c56]; done) | (simp_all [oStake, oSure]; done)) rfl
      · refine g_iconst (v := 2) h dX1_stakeNow_59 (by decide) ?_
        refine g_iload_n h dX1_stakeNow_60 rfl ?_
        refine g_imul h dX1_stakeNow_61 ?_
        refine g_goto h 66 dX1_stakeNow_62 (by decide) ?_
        refine g_min1_66 h dX1_stakeNow_66 (by decide) (Nat.le_of_ble_eq_true rfl) ?_
        exact g_iret h hr dX1_stakeNow_69 (by first | (simp [oStake, oSure, c4, c16, c56]; done) | (simp_all [oStake, oSure]; done)) rfl
    · refine g_aload_n h dX1_stakeNow_19 rfl ?_
      refine gf1_9 h (by omega) (by omega) dX1_stakeNow_20 ?_
      refine g_aload_n h dX1_stakeNow_23 rfl ?_
      refine g_iload_n h dX1_stakeNow_24 rfl ?_
      refine g_iload_n h dX1_stakeNow_25 rfl ?_
      refine cl1_59 h (by omega) (by omega) (ct_X1_slotOf (by omega) (by omega)) rfl dX1_stakeNow_26 rfl (Nat.le_of_ble_eq_true rfl) (by decide) ?_
      refine g_ialdT h (by omega) (by omega) (oSlot_in hg c16 _ _) dX1_stakeNow_29 ?_
      refine g_istore h dX1_stakeNow_30 (by rw [hL]; decide) ?_
      refine g_iload h dX1_stakeNow_32 rfl ?_
      refine g_ifeq h 43 dX1_stakeNow_34 (by decide) (fun c34 => ?_) (fun c34 => ?_)
      · refine g_iconst (v := 1) h dX1_stakeNow_43 (by decide) ?_
        refine g_goto h 48 dX1_stakeNow_44 (by decide) ?_
        refine g_istore h dX1_stakeNow_48 (by rw [hL]; decide) ?_
        refine g_aload_n h dX1_stakeNow_50 rfl ?_
        refine gf1_22 h (by omega) (by omega) dX1_stakeNow_51 ?_
        refine g_iload h dX1_stakeNow_54 rfl ?_
        refine g_ifeq h 65 dX1_stakeNow_56 (by decide) (fun c56 => ?_) (fun c56 => ?_)
        · refine g_iload_n h dX1_stakeNow_65 rfl ?_
          refine g_min1_66 h dX1_stakeNow_66 (by decide) (Nat.le_of_ble_eq_true rfl) ?_
          exact g_iret h hr dX1_stakeNow_69 (by first | (simp [oStake, oSure, c4, c16, c34, c56]; done) | (simp_all [oStake, oSure]; done)) rfl
        · refine g_iconst (v := 2) h dX1_stakeNow_59 (by decide) ?_
          refine g_iload_n h dX1_stakeNow_60 rfl ?_
          refine g_imul h dX1_stakeNow_61 ?_
          refine g_goto h 66 dX1_stakeNow_62 (by decide) ?_
          refine g_min1_66 h dX1_stakeNow_66 (by decide) (Nat.le_of_ble_eq_true rfl) ?_
          exact g_iret h hr dX1_stakeNow_69 (by first | (simp [oStake, oSure, c4, c16, c34, c56]; done) | (simp_all [oStake, oSure]; done)) rfl
      · refine g_iload h dX1_stakeNow_37 rfl ?_
        refine g_iconst (v := 3) h dX1_stakeNow_39 (by decide) ?_
        refine g_icne h 47 dX1_stakeNow_40 (by decide) (fun c40 => ?_) (fun c40 => ?_)
        · refine g_iconst (v := 0) h dX1_stakeNow_47 (by decide) ?_
          refine g_istore h dX1_stakeNow_48 (by rw [hL]; decide) ?_
          refine g_aload_n h dX1_stakeNow_50 rfl ?_
          refine gf1_22 h (by omega) (by omega) dX1_stakeNow_51 ?_
          refine g_iload h dX1_stakeNow_54 rfl ?_
          refine g_ifeq h 65 dX1_stakeNow_56 (by decide) (fun c56 => ?_) (fun c56 => ?_)
          · refine g_iload_n h dX1_stakeNow_65 rfl ?_
            refine g_min1_66 h dX1_stakeNow_66 (by decide) (Nat.le_of_ble_eq_true rfl) ?_
            exact g_iret h hr dX1_stakeNow_69 (by first | (simp [oStake, oSure, c4, c16, c34, c40, c56]; done) | (simp_all [oStake, oSure]; done)) rfl
          · refine g_iconst (v := 2) h dX1_stakeNow_59 (by decide) ?_
            refine g_iload_n h dX1_stakeNow_60 rfl ?_
            refine g_imul h dX1_stakeNow_61 ?_
            refine g_goto h 66 dX1_stakeNow_62 (by decide) ?_
            refine g_min1_66 h dX1_stakeNow_66 (by decide) (Nat.le_of_ble_eq_true rfl) ?_
            exact g_iret h hr dX1_stakeNow_69 (by first | (simp [oStake, oSure, c4, c16, c34, c40, c56]; done) | (simp_all [oStake, oSure]; done)) rfl
        · refine g_iconst (v := 1) h dX1_stakeNow_43 (by decide) ?_
          refine g_goto h 48 dX1_stakeNow_44 (by decide) ?_
          refine g_istore h dX1_stakeNow_48 (by rw [hL]; decide) ?_
          refine g_aload_n h dX1_stakeNow_50 rfl ?_
          refine gf1_22 h (by omega) (by omega) dX1_stakeNow_51 ?_
          refine g_iload h dX1_stakeNow_54 rfl ?_
          refine g_ifeq h 65 dX1_stakeNow_56 (by decide) (fun c56 => ?_) (fun c56 => ?_)
          · refine g_iload_n h dX1_stakeNow_65 rfl ?_
            refine g_min1_66 h dX1_stakeNow_66 (by decide) (Nat.le_of_ble_eq_true rfl) ?_
            exact g_iret h hr dX1_stakeNow_69 (by first | (simp [oStake, oSure, c4, c16, c34, c40, c56]; done) | (simp_all [oStake, oSure]; done)) rfl
          · refine g_iconst (v := 2) h dX1_stakeNow_59 (by decide) ?_
            refine g_iload_n h dX1_stakeNow_60 rfl ?_
            refine g_imul h dX1_stakeNow_61 ?_
            refine g_goto h 66 dX1_stakeNow_62 (by decide) ?_
            refine g_min1_66 h dX1_stakeNow_66 (by decide) (Nat.le_of_ble_eq_true rfl) ?_
            exact g_iret h hr dX1_stakeNow_69 (by first | (simp [oStake, oSure, c4, c16, c34, c40, c56]; done) | (simp_all [oStake, oSure]; done)) rfl
  · refine g_iconst (v := 0) h dX1_stakeNow_7 (by decide) ?_
    exact g_iret h hr dX1_stakeNow_8 (by first | (simp [oStake, oSure, c4]; done) | (simp_all [oStake, oSure]; done)) rfl

set_option maxRecDepth 100000 in
set_option maxHeartbeats 4000000 in
theorem ct_X1_learn {l : Launch} {X : fX} {σ : fM} {s i : Nat} (hs : s < 6) (hi : i < 6) {a k b : Int32} (hg : oGood (σ.1 (iO s i))) (ht : oTab (σ.1 (iO s i)) = true) : Ct l X yX1_learn cX1_learn 5 none 2 [ra X (iO s i), .int a, .int k, .int b] σ none (pu σ (iT s i) (oSlot (σ.1 (iO s i)) a b).toNatClampNeg (oLrn (σ.1 (iT s i) (oSlot (σ.1 (iO s i)) a b).toNatClampNeg) k)) := by
  refine Ct.of RX1 rfl (by decide) (Nat.le_of_ble_eq_true rfl) ?_
  intro x hL h hr
  refine g_sub [(0, ra X (iO s i)), (1, .int a), (2, .int k), (3, .int b)] ⟨rfl, rfl, rfl, rfl, trivial⟩ ?_
  refine g_aload_n h dX1_learn_0 rfl ?_
  refine g_iload_n h dX1_learn_1 rfl ?_
  refine g_iload_n h dX1_learn_2 rfl ?_
  refine cl1_59 h (by omega) (by omega) (ct_X1_slotOf (by omega) (by omega)) rfl dX1_learn_3 rfl (Nat.le_of_ble_eq_true rfl) (by decide) ?_
  refine g_istore h dX1_learn_6 (by rw [hL]; decide) ?_
  refine g_aload_n h dX1_learn_8 rfl ?_
  refine gf1_9 h (by omega) (by omega) dX1_learn_9 ?_
  refine g_iload h dX1_learn_12 rfl ?_
  refine g_iload_n h dX1_learn_14 rfl ?_
  refine g_iconst (v := 1) h dX1_learn_15 (by decide) ?_
  refine g_icne h 35 dX1_learn_16 (by decide) (fun c16 => ?_) (fun c16 => ?_)
  · refine g_iconst (v := 0) h dX1_learn_35 (by decide) ?_
    refine g_aload_n h dX1_learn_36 rfl ?_
    refine gf1_9 h (by omega) (by omega) dX1_learn_37 ?_
    refine g_iload h dX1_learn_40 rfl ?_
    refine g_ialdT h (by omega) (by omega) (oSlot_in hg ht _ _) dX1_learn_42 ?_
    refine g_iconst (v := 1) h dX1_learn_43 (by decide) ?_
    refine g_isub h dX1_learn_44 ?_
    refine g_max1_71 h dX1_learn_45 (by decide) (Nat.le_of_ble_eq_true rfl) ?_
    refine g_iastT h (by omega) (by omega) (oSlot_in hg ht _ _) dX1_learn_48 ?_
    exact g_vret h hr dX1_learn_49 (by first | (simp [oLrn, c16]; done) | (simp_all [oLrn]; done))
  · refine g_iconst (v := 3) h dX1_learn_19 (by decide) ?_
    refine g_aload_n h dX1_learn_20 rfl ?_
    refine gf1_9 h (by omega) (by omega) dX1_learn_21 ?_
    refine g_iload h dX1_learn_24 rfl ?_
    refine g_ialdT h (by omega) (by omega) (oSlot_in hg ht _ _) dX1_learn_26 ?_
    refine g_iconst (v := 1) h dX1_learn_27 (by decide) ?_
    refine g_iadd h dX1_learn_28 ?_
    refine g_min1_66 h dX1_learn_29 (by decide) (Nat.le_of_ble_eq_true rfl) ?_
    refine g_goto h 48 dX1_learn_32 (by decide) ?_
    refine g_iastT h (by omega) (by omega) (oSlot_in hg ht _ _) dX1_learn_48 ?_
    exact g_vret h hr dX1_learn_49 (by first | (simp [oLrn, c16]; done) | (simp_all [oLrn]; done))

set_option maxRecDepth 100000 in
set_option maxHeartbeats 4000000 in
theorem ct_X1_note {l : Launch} {X : fX} {σ : fM} {s i : Nat} (hs : s < 6) (hi : i < 6) {w : Int32} : Ct l X yX1_note cX1_note 2 none 1 [ra X (iO s i), .int w] σ none (puR σ (iO s i) (oNote (σ.1 (iO s i)) w)) := by
  refine Ct.of RX1 rfl (by decide) (Nat.le_of_ble_eq_true rfl) ?_
  intro x hL h hr
  refine g_sub [(0, ra X (iO s i)), (1, .int w)] ⟨rfl, rfl, trivial⟩ ?_
  refine g_iload_n h dX1_note_0 rfl ?_
  refine g_ifeq h 17 dX1_note_1 (by decide) (fun c1 => ?_) (fun c1 => ?_)
  · refine g_aload_n h dX1_note_17 rfl ?_
    refine g_dup h dX1_note_18 rfl ?_
    refine gf1_34 h (by omega) (by omega) dX1_note_19 ?_
    refine g_iconst (v := 1) h dX1_note_22 (by decide) ?_
    refine g_iadd h dX1_note_23 ?_
    refine gp1_34 h (by omega) (by omega) dX1_note_24 ?_
    refine g_aload_n h dX1_note_27 rfl ?_
    refine g_iconst (v := 2) h dX1_note_28 (by decide) ?_
    refine g_aload_n h dX1_note_29 rfl ?_
    refine gf1_37 h (by omega) (by omega) dX1_note_30 ?_
    refine g_imul h dX1_note_33 ?_
    refine g_iload_n h dX1_note_34 rfl ?_
    refine g_ifeq h 42 dX1_note_35 (by decide) (fun c35 => ?_) (fun c35 => ?_)
    · refine g_iconst (v := 0) h dX1_note_42 (by decide) ?_
      refine g_iadd h dX1_note_43 ?_
      refine g_ldc h (65535) (lw_in 368 (by decide +kernel) rfl) dX1_note_44 ?_
      refine g_iand h dX1_note_46 ?_
      refine gp1_37 h (by omega) (by omega) dX1_note_47 ?_
      refine g_aload_n h dX1_note_50 rfl ?_
      refine cl1_53 h (by omega) (by omega) (ct_X1_isRuined (by omega) (by omega)) rfl dX1_note_51 rfl (Nat.le_of_ble_eq_true rfl) (by decide) ?_
      refine g_ifeqB h 67 dX1_note_54 (by decide) (fun c54 => ?_) (fun c54 => ?_)
      · exact g_vret h hr dX1_note_67 (by simp_all [pu_puR, puR_puR, puR_self, oNote, oRuin, upd_s, upd_n])
      · refine g_aload_n h dX1_note_57 rfl ?_
        refine g_dup h dX1_note_58 rfl ?_
        refine gf1_40 h (by omega) (by omega) dX1_note_59 ?_
        refine g_iconst (v := 1) h dX1_note_62 (by decide) ?_
        refine g_iadd h dX1_note_63 ?_
        refine gp1_40 h (by omega) (by omega) dX1_note_64 ?_
        exact g_vret h hr dX1_note_67 (by simp_all [pu_puR, puR_puR, puR_self, oNote, oRuin, upd_s, upd_n])
    · refine g_iconst (v := 1) h dX1_note_38 (by decide) ?_
      refine g_goto h 43 dX1_note_39 (by decide) ?_
      refine g_iadd h dX1_note_43 ?_
      refine g_ldc h (65535) (lw_in 368 (by decide +kernel) rfl) dX1_note_44 ?_
      refine g_iand h dX1_note_46 ?_
      refine gp1_37 h (by omega) (by omega) dX1_note_47 ?_
      refine g_aload_n h dX1_note_50 rfl ?_
      refine cl1_53 h (by omega) (by omega) (ct_X1_isRuined (by omega) (by omega)) rfl dX1_note_51 rfl (Nat.le_of_ble_eq_true rfl) (by decide) ?_
      refine g_ifeqB h 67 dX1_note_54 (by decide) (fun c54 => ?_) (fun c54 => ?_)
      · exact g_vret h hr dX1_note_67 (by simp_all [pu_puR, puR_puR, puR_self, oNote, oRuin, upd_s, upd_n])
      · refine g_aload_n h dX1_note_57 rfl ?_
        refine g_dup h dX1_note_58 rfl ?_
        refine gf1_40 h (by omega) (by omega) dX1_note_59 ?_
        refine g_iconst (v := 1) h dX1_note_62 (by decide) ?_
        refine g_iadd h dX1_note_63 ?_
        refine gp1_40 h (by omega) (by omega) dX1_note_64 ?_
        exact g_vret h hr dX1_note_67 (by simp_all [pu_puR, puR_puR, puR_self, oNote, oRuin, upd_s, upd_n])
  · refine g_aload_n h dX1_note_4 rfl ?_
    refine g_dup h dX1_note_5 rfl ?_
    refine gf1_31 h (by omega) (by omega) dX1_note_6 ?_
    refine g_iconst (v := 1) h dX1_note_9 (by decide) ?_
    refine g_iadd h dX1_note_10 ?_
    refine gp1_31 h (by omega) (by omega) dX1_note_11 ?_
    refine g_goto h 27 dX1_note_14 (by decide) ?_
    refine g_aload_n h dX1_note_27 rfl ?_
    refine g_iconst (v := 2) h dX1_note_28 (by decide) ?_
    refine g_aload_n h dX1_note_29 rfl ?_
    refine gf1_37 h (by omega) (by omega) dX1_note_30 ?_
    refine g_imul h dX1_note_33 ?_
    refine g_iload_n h dX1_note_34 rfl ?_
    refine g_ifeq h 42 dX1_note_35 (by decide) (fun c35 => ?_) (fun c35 => ?_)
    · refine g_iconst (v := 0) h dX1_note_42 (by decide) ?_
      refine g_iadd h dX1_note_43 ?_
      refine g_ldc h (65535) (lw_in 368 (by decide +kernel) rfl) dX1_note_44 ?_
      refine g_iand h dX1_note_46 ?_
      refine gp1_37 h (by omega) (by omega) dX1_note_47 ?_
      refine g_aload_n h dX1_note_50 rfl ?_
      refine cl1_53 h (by omega) (by omega) (ct_X1_isRuined (by omega) (by omega)) rfl dX1_note_51 rfl (Nat.le_of_ble_eq_true rfl) (by decide) ?_
      refine g_ifeqB h 67 dX1_note_54 (by decide) (fun c54 => ?_) (fun c54 => ?_)
      · exact g_vret h hr dX1_note_67 (by simp_all [pu_puR, puR_puR, puR_self, oNote, oRuin, upd_s, upd_n])
      · refine g_aload_n h dX1_note_57 rfl ?_
        refine g_dup h dX1_note_58 rfl ?_
        refine gf1_40 h (by omega) (by omega) dX1_note_59 ?_
        refine g_iconst (v := 1) h dX1_note_62 (by decide) ?_
        refine g_iadd h dX1_note_63 ?_
        refine gp1_40 h (by omega) (by omega) dX1_note_64 ?_
        exact g_vret h hr dX1_note_67 (by simp_all [pu_puR, puR_puR, puR_self, oNote, oRuin, upd_s, upd_n])
    · refine g_iconst (v := 1) h dX1_note_38 (by decide) ?_
      refine g_goto h 43 dX1_note_39 (by decide) ?_
      refine g_iadd h dX1_note_43 ?_
      refine g_ldc h (65535) (lw_in 368 (by decide +kernel) rfl) dX1_note_44 ?_
      refine g_iand h dX1_note_46 ?_
      refine gp1_37 h (by omega) (by omega) dX1_note_47 ?_
      refine g_aload_n h dX1_note_50 rfl ?_
      refine cl1_53 h (by omega) (by omega) (ct_X1_isRuined (by omega) (by omega)) rfl dX1_note_51 rfl (Nat.le_of_ble_eq_true rfl) (by decide) ?_
      refine g_ifeqB h 67 dX1_note_54 (by decide) (fun c54 => ?_) (fun c54 => ?_)
      · exact g_vret h hr dX1_note_67 (by simp_all [pu_puR, puR_puR, puR_self, oNote, oRuin, upd_s, upd_n])
      · refine g_aload_n h dX1_note_57 rfl ?_
        refine g_dup h dX1_note_58 rfl ?_
        refine gf1_40 h (by omega) (by omega) dX1_note_59 ?_
        refine g_iconst (v := 1) h dX1_note_62 (by decide) ?_
        refine g_iadd h dX1_note_63 ?_
        refine gp1_40 h (by omega) (by omega) dX1_note_64 ?_
        exact g_vret h hr dX1_note_67 (by simp_all [pu_puR, puR_puR, puR_self, oNote, oRuin, upd_s, upd_n])

theorem oBegin_lp (σ : fM) (s i j : Nat) : pu (puR σ (iT s i) (fun k => if k < j then 1 else σ.1 (iT s i) k)) (iT s i) j 1 = puR σ (iT s i) (fun k => if k < j + 1 then 1 else σ.1 (iT s i) k) := by
  rw [pu_puR, puR_puR, puR_self]
  refine congrArg (puR σ _) ?_
  funext k
  unfold upd
  by_cases h1 : k = j
  · rw [if_pos h1, if_pos (by omega)]
  · rw [if_neg h1]
    show (if k < j then _ else _) = _
    by_cases h2 : k < j
    · rw [if_pos h2, if_pos (by omega)]
    · rw [if_neg h2, if_neg (by omega)]

set_option maxRecDepth 100000 in
set_option maxHeartbeats 4000000 in
theorem ct_X1_begin {l : Launch} {X : fX} {σ : fM} {s i : Nat} (hs : s < 6) (hi : i < 6) {k n p : Int32} : Ct l X yX1_begin cX1_begin 5 none 1 [ra X (iO s i), .int k, .int n, .int p] σ none (puR (puR σ (iO s i) (oBegin (σ.1 (iO s i)) k n p)) (iT s i) (fun q => if q < 32 then 1 else σ.1 (iT s i) q)) := by
  refine Ct.of RX1 rfl (by decide) (Nat.le_of_ble_eq_true rfl) ?_
  intro x hL h hr
  refine g_sub [(0, ra X (iO s i)), (1, .int k), (2, .int n), (3, .int p)] ⟨rfl, rfl, rfl, rfl, trivial⟩ ?_
  have LOOP : ∀ (q j : Nat), j + q = 32 → G x X (puR (puR σ (iO s i) (oBegin (σ.1 (iO s i)) k n p)) (iT s i) (fun q => if q < j then 1 else σ.1 (iT s i) q)) [(0, ra X (iO s i)), (4, .int (nI j))] [] 48 := by
    intro q
    induction q with
    | zero =>
      intro j hi 
      obtain rfl : j = 32 := by omega
      refine g_iload h dX1_begin_48 rfl ?_
      refine g_aload_n h dX1_begin_50 rfl ?_
      refine gf1_9 h (by omega) (by omega) dX1_begin_51 ?_
      refine g_alen h (iT_lt (by omega) (by omega)) (enc_T X (by omega) (by omega)) (t := 0) rfl dX1_begin_54 ?_
      refine g_icge h 72 dX1_begin_55 (by decide) (fun c55 => ?_) (fun c55 => absurd (Int32.le_refl _) c55)
      exact g_vret h hr dX1_begin_72 rfl
    | succ q ih =>
      intro j hi 
      have hlt : j < 32 := by omega
      refine g_iload h dX1_begin_48 rfl ?_
      refine g_aload_n h dX1_begin_50 rfl ?_
      refine gf1_9 h (by omega) (by omega) dX1_begin_51 ?_
      refine g_alen h (iT_lt (by omega) (by omega)) (enc_T X (by omega) (by omega)) (t := 0) rfl dX1_begin_54 ?_
      refine g_icge h 72 dX1_begin_55 (by decide) (fun c55 => absurd c55 (nI_ge hlt (by decide))) (fun c55 => ?_)
      refine g_aload_n h dX1_begin_58 rfl ?_
      refine gf1_9 h (by omega) (by omega) dX1_begin_59 ?_
      refine g_iload h dX1_begin_62 rfl ?_
      refine g_iconst (v := 1) h dX1_begin_64 (by decide) ?_
      refine g_iastN h (iT_lt (by omega) (by omega)) (enc_T X (by omega) (by omega)) rfl hlt (by decide) dX1_begin_65 ?_
      refine g_iincN h dX1_begin_66 rfl (by rw [hL]; decide) ?_
      refine g_goto h 48 dX1_begin_69 (by decide) ?_
      refine g_mem (puR (puR σ (iO s i) (oBegin (σ.1 (iO s i)) k n p)) (iT s i) (fun q => if q < j + 1 then 1 else σ.1 (iT s i) q)) (by have e := oBegin_lp (puR σ (iO s i) (oBegin (σ.1 (iO s i)) k n p)) s i j; rw [puR_ne _ (iO_T s i s i).symm] at e; exact e) ?_
      refine g_sub [(0, ra X (iO s i)), (4, .int (nI (j + 1)))] ⟨rfl, rfl, trivial⟩ ?_
      exact ih (j + 1) (by omega)
  refine g_aload_n h dX1_begin_0 rfl ?_
  refine g_iload_n h dX1_begin_1 rfl ?_
  refine gp1_15 h (by omega) (by omega) dX1_begin_2 ?_
  refine g_aload_n h dX1_begin_5 rfl ?_
  refine g_iload_n h dX1_begin_6 rfl ?_
  refine gp1_19 h (by omega) (by omega) dX1_begin_7 ?_
  refine g_aload_n h dX1_begin_10 rfl ?_
  refine g_iload_n h dX1_begin_11 rfl ?_
  refine gp1_22 h (by omega) (by omega) dX1_begin_12 ?_
  refine g_aload_n h dX1_begin_15 rfl ?_
  refine g_iconst (v := (-1)) h dX1_begin_16 (by decide) ?_
  refine gp1_25 h (by omega) (by omega) dX1_begin_17 ?_
  refine g_aload_n h dX1_begin_20 rfl ?_
  refine g_iconst (v := (-1)) h dX1_begin_21 (by decide) ?_
  refine gp1_28 h (by omega) (by omega) dX1_begin_22 ?_
  refine g_aload_n h dX1_begin_25 rfl ?_
  refine g_iconst (v := 0) h dX1_begin_26 (by decide) ?_
  refine gp1_31 h (by omega) (by omega) dX1_begin_27 ?_
  refine g_aload_n h dX1_begin_30 rfl ?_
  refine g_iconst (v := 0) h dX1_begin_31 (by decide) ?_
  refine gp1_34 h (by omega) (by omega) dX1_begin_32 ?_
  refine g_aload_n h dX1_begin_35 rfl ?_
  refine g_iconst (v := 0) h dX1_begin_36 (by decide) ?_
  refine gp1_37 h (by omega) (by omega) dX1_begin_37 ?_
  refine g_aload_n h dX1_begin_40 rfl ?_
  refine g_iconst (v := 0) h dX1_begin_41 (by decide) ?_
  refine gp1_40 h (by omega) (by omega) dX1_begin_42 ?_
  refine g_iconst (v := 0) h dX1_begin_45 (by decide) ?_
  refine g_istore h dX1_begin_46 (by rw [hL]; decide) ?_
  refine g_mem (puR (puR σ (iO s i) (oBegin (σ.1 (iO s i)) k n p)) (iT s i) (fun q => if q < 0 then 1 else σ.1 (iT s i) q)) ?_ ?_
  · simp only [pu_puR, puR_puR, puR_self, oBegin]; exact (puR_id _ _).symm.trans (congrArg (puR _ _) (by funext q; simp [puR_ne _ (iO_T s i s i).symm]))
  refine g_sub [(0, ra X (iO s i)), (4, .int (nI 0))] ⟨rfl, lk_0, trivial⟩ ?_
  exact LOOP 32 0 (by omega)
set_option maxRecDepth 100000 in
set_option maxHeartbeats 4000000 in
theorem ct_X1_copyFrom {l : Launch} {X : fX} {σ : fM} {s i s2 i2 : Nat} (hs : s < 6) (hi : i < 6) (hs2 : s2 < 6) (hi2 : i2 < 6) (hne : iO s2 i2 ≠ iO s i) : Ct l X yX1_copyFrom cX1_copyFrom 2 none 1 [ra X (iO s i), ra X (iO s2 i2)] σ none (puR (puR σ (iO s i) (oCopy (σ.1 (iO s2 i2)) (σ.1 (iO s i)))) (iT s i) (cpy (σ.1 (iT s2 i2)) (σ.1 (iT s i)) 32)) := by
  refine Ct.of RX1 rfl (by decide) (Nat.le_of_ble_eq_true rfl) ?_
  intro x hL h hr
  refine g_sub [(0, ra X (iO s i)), (1, ra X (iO s2 i2))] ⟨rfl, rfl, trivial⟩ ?_
  refine g_aload_n h dX1_copyFrom_0 rfl ?_
  refine g_aload_n h dX1_copyFrom_1 rfl ?_
  refine gf1_15 h (by omega) (by omega) dX1_copyFrom_2 ?_
  refine gp1_15 h (by omega) (by omega) dX1_copyFrom_5 ?_
  refine g_aload_n h dX1_copyFrom_8 rfl ?_
  refine g_aload_n h dX1_copyFrom_9 rfl ?_
  refine gf1_19 h (by omega) (by omega) dX1_copyFrom_10 ?_
  refine gp1_19 h (by omega) (by omega) dX1_copyFrom_13 ?_
  refine g_aload_n h dX1_copyFrom_16 rfl ?_
  refine g_aload_n h dX1_copyFrom_17 rfl ?_
  refine gf1_22 h (by omega) (by omega) dX1_copyFrom_18 ?_
  refine gp1_22 h (by omega) (by omega) dX1_copyFrom_21 ?_
  refine g_aload_n h dX1_copyFrom_24 rfl ?_
  refine g_aload_n h dX1_copyFrom_25 rfl ?_
  refine gf1_25 h (by omega) (by omega) dX1_copyFrom_26 ?_
  refine gp1_25 h (by omega) (by omega) dX1_copyFrom_29 ?_
  refine g_aload_n h dX1_copyFrom_32 rfl ?_
  refine g_aload_n h dX1_copyFrom_33 rfl ?_
  refine gf1_28 h (by omega) (by omega) dX1_copyFrom_34 ?_
  refine gp1_28 h (by omega) (by omega) dX1_copyFrom_37 ?_
  refine g_aload_n h dX1_copyFrom_40 rfl ?_
  refine g_aload_n h dX1_copyFrom_41 rfl ?_
  refine gf1_31 h (by omega) (by omega) dX1_copyFrom_42 ?_
  refine gp1_31 h (by omega) (by omega) dX1_copyFrom_45 ?_
  refine g_aload_n h dX1_copyFrom_48 rfl ?_
  refine g_aload_n h dX1_copyFrom_49 rfl ?_
  refine gf1_34 h (by omega) (by omega) dX1_copyFrom_50 ?_
  refine gp1_34 h (by omega) (by omega) dX1_copyFrom_53 ?_
  refine g_aload_n h dX1_copyFrom_56 rfl ?_
  refine g_aload_n h dX1_copyFrom_57 rfl ?_
  refine gf1_37 h (by omega) (by omega) dX1_copyFrom_58 ?_
  refine gp1_37 h (by omega) (by omega) dX1_copyFrom_61 ?_
  refine g_aload_n h dX1_copyFrom_64 rfl ?_
  refine g_aload_n h dX1_copyFrom_65 rfl ?_
  refine gf1_40 h (by omega) (by omega) dX1_copyFrom_66 ?_
  refine gp1_40 h (by omega) (by omega) dX1_copyFrom_69 ?_
  refine g_aload_n h dX1_copyFrom_72 rfl ?_
  refine gf1_9 h (by omega) (by omega) dX1_copyFrom_73 ?_
  refine g_iconst (v := 0) h dX1_copyFrom_76 (by decide) ?_
  refine g_aload_n h dX1_copyFrom_77 rfl ?_
  refine gf1_9 h (by omega) (by omega) dX1_copyFrom_78 ?_
  refine g_iconst (v := 0) h dX1_copyFrom_81 (by decide) ?_
  refine g_bipush (v := 32) h dX1_copyFrom_82 (by decide) ?_
  refine g_copy h (k0 := iT s2 i2) (k1 := iT s i) (n := 32) (lw_in 233 (by decide +kernel) rfl) (iT_lt hs2 hi2) (iT_lt hs hi) (enc_T X hs2 hi2) (enc_T X hs hi) nI_0.symm nI_0.symm (by decide) (Nat.le_refl _) (Nat.le_refl _) (by decide) dX1_copyFrom_84 (by decide) (Nat.le_of_ble_eq_true rfl) ?_
  exact g_vret h hr dX1_copyFrom_87 (by simp only [pu_puR, puR_puR, puR_self, puR_ne _ hne, puR_ne _ (iO_T s i s2 i2).symm, puR_ne _ (iO_T s i s i).symm, oCopy])

set_option maxRecDepth 100000 in
set_option maxHeartbeats 4000000 in
theorem ct_X0_copyFrom {l : Launch} {X : fX} {σ : fM} {s i s2 i2 : Nat} (hs : s < 6) (hi : i < 8) (hs2 : s2 < 6) (hi2 : i2 < 8) (hne : iL s2 i2 ≠ iL s i) : Ct l X yX0_copyFrom cX0_copyFrom 2 none 0 [ra X (iL s i), ra X (iL s2 i2)] σ none (puR σ (iL s i) (lCopy (σ.1 (iL s2 i2)) (σ.1 (iL s i)))) := by
  refine Ct.of RX0 rfl (by decide) (Nat.le_of_ble_eq_true rfl) ?_
  intro x hL h hr
  refine g_sub [(0, ra X (iL s i)), (1, ra X (iL s2 i2))] ⟨rfl, rfl, trivial⟩ ?_
  refine g_aload_n h dX0_copyFrom_0 rfl ?_
  refine g_aload_n h dX0_copyFrom_1 rfl ?_
  refine gf0_7 h (by omega) (by omega) dX0_copyFrom_2 ?_
  refine gp0_7 h (by omega) (by omega) dX0_copyFrom_5 ?_
  refine g_aload_n h dX0_copyFrom_8 rfl ?_
  refine g_aload_n h dX0_copyFrom_9 rfl ?_
  refine gf0_13 h (by omega) (by omega) dX0_copyFrom_10 ?_
  refine gp0_13 h (by omega) (by omega) dX0_copyFrom_13 ?_
  refine g_aload_n h dX0_copyFrom_16 rfl ?_
  refine g_aload_n h dX0_copyFrom_17 rfl ?_
  refine gf0_16 h (by omega) (by omega) dX0_copyFrom_18 ?_
  refine gp0_16 h (by omega) (by omega) dX0_copyFrom_21 ?_
  exact g_vret h hr dX0_copyFrom_24 (by simp only [pu_puR, puR_puR, puR_self, puR_ne _ hne, lCopy])
end
section
/-! State: what is only read. n oracles, m loans stand in the state s -/
/-- f 0 + f 1 + .. + f (n - 1), behind a -/
def sumF (a : Int32) (f : Nat → Int32) : Nat → Int32
  | 0 => a
  | n + 1 => sumF a f n + f n
def anyF (f : Nat → Bool) : Nat → Bool
  | 0 => false
  | n + 1 => anyF f n || f n
theorem anyF_t {f : Nat → Bool} {i : Nat} : ∀ {n : Nat}, i < n → f i = true → anyF f n = true
  | 0, h, _ => absurd h (Nat.not_lt_zero _)
  | n + 1, h, e => by
    unfold anyF
    by_cases hi : i = n
    · subst hi; rw [e]; simp
    · rw [anyF_t (by omega) e]; simp
/-- n oracles, m loans -/
def cnt (σ : fM) (s n m : Nat) : Prop := σ.1 (iS s) 3 = nI n ∧ σ.1 (iS s) 4 = nI m ∧ n ≤ 6 ∧ m ≤ 8

set_option maxRecDepth 100000 in
set_option maxHeartbeats 4000000 in
theorem ct_X3_sittersOf {l : Launch} {X : fX} {σ : fM} {s n m : Nat} (hs : s < 6) (hc : cnt σ s n m) {b : Int32} : Ct l X yX3_sittersOf cX3_sittersOf 4 (some .int) 0 [ra X (iS s), .int b] σ (some (.int (sumF 0 (fun i => if σ.1 (iO s i) 3 = b then 1 else 0) n))) σ := by
  refine Ct.of RX3 rfl (by decide) (Nat.le_of_ble_eq_true rfl) ?_
  intro x hL h hr
  refine g_sub [(0, ra X (iS s)), (1, .int b)] ⟨rfl, rfl, trivial⟩ ?_
  obtain ⟨hn, hm, hn6, hm8⟩ := hc
  have LOOP : ∀ (q i : Nat), i + q = n → G x X σ [(0, ra X (iS s)), (1, .int b), (2, .int (sumF 0 (fun i => if σ.1 (iO s i) 3 = b then 1 else 0) i)), (3, .int (nI i))] [] 4 := by
    intro q
    induction q with
    | zero =>
      intro i hi 
      obtain rfl : i = n := by omega
      refine g_iload_n h dX3_sittersOf_4 rfl ?_
      refine g_aload_n h dX3_sittersOf_5 rfl ?_
      refine gf3_32 h (by omega) dX3_sittersOf_6 ?_
      refine g_icge h 34 dX3_sittersOf_9 (by decide) (fun c9 => ?_) (fun c9 => absurd (by rw [hn]; exact Int32.le_refl _) c9)
      refine g_iload_n h dX3_sittersOf_34 rfl ?_
      exact g_iret h hr dX3_sittersOf_35 rfl rfl
    | succ q ih =>
      intro i hi 
      have hlt : i < n := by omega
      refine g_iload_n h dX3_sittersOf_4 rfl ?_
      refine g_aload_n h dX3_sittersOf_5 rfl ?_
      refine gf3_32 h (by omega) dX3_sittersOf_6 ?_
      refine g_icge h 34 dX3_sittersOf_9 (by decide) (fun c9 => absurd c9 (by rw [hn]; exact nI_ge hlt (by omega))) (fun c9 => ?_)
      refine g_aload_n h dX3_sittersOf_12 rfl ?_
      refine gf3_11 h (by omega) dX3_sittersOf_13 ?_
      refine g_iload_n h dX3_sittersOf_16 rfl ?_
      refine g_aaldO h (by omega) rfl (by omega) dX3_sittersOf_17 ?_
      refine gf3_68 h (by omega) (by omega) dX3_sittersOf_18 ?_
      refine g_iload_n h dX3_sittersOf_21 rfl ?_
      refine g_icne h 28 dX3_sittersOf_22 (by decide) (fun c22 => ?_) (fun c22 => ?_)
      · refine g_iincN h dX3_sittersOf_28 rfl (by rw [hL]; decide) ?_
        refine g_goto h 4 dX3_sittersOf_31 (by decide) ?_
        refine g_sub [(0, ra X (iS s)), (1, .int b), (2, .int (sumF 0 (fun i => if σ.1 (iO s i) 3 = b then 1 else 0) (i + 1))), (3, .int (nI (i + 1)))] ⟨rfl, rfl, (congrArg (fun z => some (Value.int z)) (by simp [sumF, c9, c22])), rfl, trivial⟩ ?_
        exact ih (i + 1) (by omega)
      · refine g_iinc1 h dX3_sittersOf_25 rfl (by rw [hL]; decide) ?_
        refine g_iincN h dX3_sittersOf_28 rfl (by rw [hL]; decide) ?_
        refine g_goto h 4 dX3_sittersOf_31 (by decide) ?_
        refine g_sub [(0, ra X (iS s)), (1, .int b), (2, .int (sumF 0 (fun i => if σ.1 (iO s i) 3 = b then 1 else 0) (i + 1))), (3, .int (nI (i + 1)))] ⟨rfl, rfl, (congrArg (fun z => some (Value.int z)) (by simp [sumF, c9, c22])), rfl, trivial⟩ ?_
        exact ih (i + 1) (by omega)
  refine g_iconst (v := 0) h dX3_sittersOf_0 (by decide) ?_
  refine g_istore_n h dX3_sittersOf_1 (by rw [hL]; decide) ?_
  refine g_iconst (v := 0) h dX3_sittersOf_2 (by decide) ?_
  refine g_istore_n h dX3_sittersOf_3 (by rw [hL]; decide) ?_
  refine g_sub [(0, ra X (iS s)), (1, .int b), (2, .int (sumF 0 (fun i => if σ.1 (iO s i) 3 = b then 1 else 0) 0)), (3, .int (nI 0))] ⟨rfl, rfl, rfl, lk_0, trivial⟩ ?_
  exact LOOP n 0 (by omega)
set_option maxRecDepth 100000 in
set_option maxHeartbeats 4000000 in
theorem ct_X3_seatedOracles {l : Launch} {X : fX} {σ : fM} {s n m : Nat} (hs : s < 6) (hc : cnt σ s n m) : Ct l X yX3_seatedOracles cX3_seatedOracles 3 (some .int) 1 [ra X (iS s)] σ (some (.int (sumF 0 (fun i => if oSeat (σ.1 (iO s i)) = true then 1 else 0) n))) σ := by
  refine Ct.of RX3 rfl (by decide) (Nat.le_of_ble_eq_true rfl) ?_
  intro x hL h hr
  refine g_sub [(0, ra X (iS s))] ⟨rfl, trivial⟩ ?_
  obtain ⟨hn, hm, hn6, hm8⟩ := hc
  have LOOP : ∀ (q i : Nat), i + q = n → G x X σ [(0, ra X (iS s)), (1, .int (sumF 0 (fun i => if oSeat (σ.1 (iO s i)) = true then 1 else 0) i)), (2, .int (nI i))] [] 4 := by
    intro q
    induction q with
    | zero =>
      intro i hi 
      obtain rfl : i = n := by omega
      refine g_iload_n h dX3_seatedOracles_4 rfl ?_
      refine g_aload_n h dX3_seatedOracles_5 rfl ?_
      refine gf3_32 h (by omega) dX3_seatedOracles_6 ?_
      refine g_icge h 33 dX3_seatedOracles_9 (by decide) (fun c9 => ?_) (fun c9 => absurd (by rw [hn]; exact Int32.le_refl _) c9)
      refine g_iload_n h dX3_seatedOracles_33 rfl ?_
      exact g_iret h hr dX3_seatedOracles_34 rfl rfl
    | succ q ih =>
      intro i hi 
      have hlt : i < n := by omega
      refine g_iload_n h dX3_seatedOracles_4 rfl ?_
      refine g_aload_n h dX3_seatedOracles_5 rfl ?_
      refine gf3_32 h (by omega) dX3_seatedOracles_6 ?_
      refine g_icge h 33 dX3_seatedOracles_9 (by decide) (fun c9 => absurd c9 (by rw [hn]; exact nI_ge hlt (by omega))) (fun c9 => ?_)
      refine g_aload_n h dX3_seatedOracles_12 rfl ?_
      refine gf3_11 h (by omega) dX3_seatedOracles_13 ?_
      refine g_iload_n h dX3_seatedOracles_16 rfl ?_
      refine g_aaldO h (by omega) rfl (by omega) dX3_seatedOracles_17 ?_
      refine cl3_78 h (by omega) (by omega) (ct_X1_hasSeat (by omega) (by omega)) rfl dX3_seatedOracles_18 rfl (Nat.le_of_ble_eq_true rfl) (by decide) ?_
      refine g_ifeqB h 27 dX3_seatedOracles_21 (by decide) (fun c21 => ?_) (fun c21 => ?_)
      · refine g_iincN h dX3_seatedOracles_27 rfl (by rw [hL]; decide) ?_
        refine g_goto h 4 dX3_seatedOracles_30 (by decide) ?_
        refine g_sub [(0, ra X (iS s)), (1, .int (sumF 0 (fun i => if oSeat (σ.1 (iO s i)) = true then 1 else 0) (i + 1))), (2, .int (nI (i + 1)))] ⟨rfl, (congrArg (fun z => some (Value.int z)) (by simp [sumF, c9, c21])), rfl, trivial⟩ ?_
        exact ih (i + 1) (by omega)
      · refine g_iinc1 h dX3_seatedOracles_24 rfl (by rw [hL]; decide) ?_
        refine g_iincN h dX3_seatedOracles_27 rfl (by rw [hL]; decide) ?_
        refine g_goto h 4 dX3_seatedOracles_30 (by decide) ?_
        refine g_sub [(0, ra X (iS s)), (1, .int (sumF 0 (fun i => if oSeat (σ.1 (iO s i)) = true then 1 else 0) (i + 1))), (2, .int (nI (i + 1)))] ⟨rfl, (congrArg (fun z => some (Value.int z)) (by simp [sumF, c9, c21])), rfl, trivial⟩ ?_
        exact ih (i + 1) (by omega)
  refine g_iconst (v := 0) h dX3_seatedOracles_0 (by decide) ?_
  refine g_istore_n h dX3_seatedOracles_1 (by rw [hL]; decide) ?_
  refine g_iconst (v := 0) h dX3_seatedOracles_2 (by decide) ?_
  refine g_istore_n h dX3_seatedOracles_3 (by rw [hL]; decide) ?_
  refine g_sub [(0, ra X (iS s)), (1, .int (sumF 0 (fun i => if oSeat (σ.1 (iO s i)) = true then 1 else 0) 0)), (2, .int (nI 0))] ⟨rfl, rfl, lk_0, trivial⟩ ?_
  exact LOOP n 0 (by omega)
set_option maxRecDepth 100000 in
set_option maxHeartbeats 4000000 in
theorem ct_X3_ruinedOracles {l : Launch} {X : fX} {σ : fM} {s n m : Nat} (hs : s < 6) (hc : cnt σ s n m) : Ct l X yX3_ruinedOracles cX3_ruinedOracles 3 (some .int) 1 [ra X (iS s)] σ (some (.int (sumF 0 (fun i => if oRuin (σ.1 (iO s i)) = true then 1 else 0) n))) σ := by
  refine Ct.of RX3 rfl (by decide) (Nat.le_of_ble_eq_true rfl) ?_
  intro x hL h hr
  refine g_sub [(0, ra X (iS s))] ⟨rfl, trivial⟩ ?_
  obtain ⟨hn, hm, hn6, hm8⟩ := hc
  have LOOP : ∀ (q i : Nat), i + q = n → G x X σ [(0, ra X (iS s)), (1, .int (sumF 0 (fun i => if oRuin (σ.1 (iO s i)) = true then 1 else 0) i)), (2, .int (nI i))] [] 4 := by
    intro q
    induction q with
    | zero =>
      intro i hi 
      obtain rfl : i = n := by omega
      refine g_iload_n h dX3_ruinedOracles_4 rfl ?_
      refine g_aload_n h dX3_ruinedOracles_5 rfl ?_
      refine gf3_32 h (by omega) dX3_ruinedOracles_6 ?_
      refine g_icge h 33 dX3_ruinedOracles_9 (by decide) (fun c9 => ?_) (fun c9 => absurd (by rw [hn]; exact Int32.le_refl _) c9)
      refine g_iload_n h dX3_ruinedOracles_33 rfl ?_
      exact g_iret h hr dX3_ruinedOracles_34 rfl rfl
    | succ q ih =>
      intro i hi 
      have hlt : i < n := by omega
      refine g_iload_n h dX3_ruinedOracles_4 rfl ?_
      refine g_aload_n h dX3_ruinedOracles_5 rfl ?_
      refine gf3_32 h (by omega) dX3_ruinedOracles_6 ?_
      refine g_icge h 33 dX3_ruinedOracles_9 (by decide) (fun c9 => absurd c9 (by rw [hn]; exact nI_ge hlt (by omega))) (fun c9 => ?_)
      refine g_aload_n h dX3_ruinedOracles_12 rfl ?_
      refine gf3_11 h (by omega) dX3_ruinedOracles_13 ?_
      refine g_iload_n h dX3_ruinedOracles_16 rfl ?_
      refine g_aaldO h (by omega) rfl (by omega) dX3_ruinedOracles_17 ?_
      refine cl3_82 h (by omega) (by omega) (ct_X1_isRuined (by omega) (by omega)) rfl dX3_ruinedOracles_18 rfl (Nat.le_of_ble_eq_true rfl) (by decide) ?_
      refine g_ifeqB h 27 dX3_ruinedOracles_21 (by decide) (fun c21 => ?_) (fun c21 => ?_)
      · refine g_iincN h dX3_ruinedOracles_27 rfl (by rw [hL]; decide) ?_
        refine g_goto h 4 dX3_ruinedOracles_30 (by decide) ?_
        refine g_sub [(0, ra X (iS s)), (1, .int (sumF 0 (fun i => if oRuin (σ.1 (iO s i)) = true then 1 else 0) (i + 1))), (2, .int (nI (i + 1)))] ⟨rfl, (congrArg (fun z => some (Value.int z)) (by simp [sumF, c9, c21])), rfl, trivial⟩ ?_
        exact ih (i + 1) (by omega)
      · refine g_iinc1 h dX3_ruinedOracles_24 rfl (by rw [hL]; decide) ?_
        refine g_iincN h dX3_ruinedOracles_27 rfl (by rw [hL]; decide) ?_
        refine g_goto h 4 dX3_ruinedOracles_30 (by decide) ?_
        refine g_sub [(0, ra X (iS s)), (1, .int (sumF 0 (fun i => if oRuin (σ.1 (iO s i)) = true then 1 else 0) (i + 1))), (2, .int (nI (i + 1)))] ⟨rfl, (congrArg (fun z => some (Value.int z)) (by simp [sumF, c9, c21])), rfl, trivial⟩ ?_
        exact ih (i + 1) (by omega)
  refine g_iconst (v := 0) h dX3_ruinedOracles_0 (by decide) ?_
  refine g_istore_n h dX3_ruinedOracles_1 (by rw [hL]; decide) ?_
  refine g_iconst (v := 0) h dX3_ruinedOracles_2 (by decide) ?_
  refine g_istore_n h dX3_ruinedOracles_3 (by rw [hL]; decide) ?_
  refine g_sub [(0, ra X (iS s)), (1, .int (sumF 0 (fun i => if oRuin (σ.1 (iO s i)) = true then 1 else 0) 0)), (2, .int (nI 0))] ⟨rfl, rfl, lk_0, trivial⟩ ?_
  exact LOOP n 0 (by omega)
set_option maxRecDepth 100000 in
set_option maxHeartbeats 4000000 in
theorem ct_X3_allCoins {l : Launch} {X : fX} {σ : fM} {s n m : Nat} (hs : s < 6) (hc : cnt σ s n m) : Ct l X yX3_allCoins cX3_allCoins 3 (some .int) 0 [ra X (iS s)] σ (some (.int (sumF (σ.1 (iS s) 5) (fun i => σ.1 (iO s i) 2) n))) σ := by
  refine Ct.of RX3 rfl (by decide) (Nat.le_of_ble_eq_true rfl) ?_
  intro x hL h hr
  refine g_sub [(0, ra X (iS s))] ⟨rfl, trivial⟩ ?_
  obtain ⟨hn, hm, hn6, hm8⟩ := hc
  have LOOP : ∀ (q i : Nat), i + q = n → G x X σ [(0, ra X (iS s)), (1, .int (sumF (σ.1 (iS s) 5) (fun i => σ.1 (iO s i) 2) i)), (2, .int (nI i))] [] 7 := by
    intro q
    induction q with
    | zero =>
      intro i hi 
      obtain rfl : i = n := by omega
      refine g_iload_n h dX3_allCoins_7 rfl ?_
      refine g_aload_n h dX3_allCoins_8 rfl ?_
      refine gf3_32 h (by omega) dX3_allCoins_9 ?_
      refine g_icge h 33 dX3_allCoins_12 (by decide) (fun c12 => ?_) (fun c12 => absurd (by rw [hn]; exact Int32.le_refl _) c12)
      refine g_iload_n h dX3_allCoins_33 rfl ?_
      exact g_iret h hr dX3_allCoins_34 rfl rfl
    | succ q ih =>
      intro i hi 
      have hlt : i < n := by omega
      refine g_iload_n h dX3_allCoins_7 rfl ?_
      refine g_aload_n h dX3_allCoins_8 rfl ?_
      refine gf3_32 h (by omega) dX3_allCoins_9 ?_
      refine g_icge h 33 dX3_allCoins_12 (by decide) (fun c12 => absurd c12 (by rw [hn]; exact nI_ge hlt (by omega))) (fun c12 => ?_)
      refine g_iload_n h dX3_allCoins_15 rfl ?_
      refine g_aload_n h dX3_allCoins_16 rfl ?_
      refine gf3_11 h (by omega) dX3_allCoins_17 ?_
      refine g_iload_n h dX3_allCoins_20 rfl ?_
      refine g_aaldO h (by omega) rfl (by omega) dX3_allCoins_21 ?_
      refine gf3_85 h (by omega) (by omega) dX3_allCoins_22 ?_
      refine g_iadd h dX3_allCoins_25 ?_
      refine g_istore_n h dX3_allCoins_26 (by rw [hL]; decide) ?_
      refine g_iincN h dX3_allCoins_27 rfl (by rw [hL]; decide) ?_
      refine g_goto h 7 dX3_allCoins_30 (by decide) ?_
      refine g_sub [(0, ra X (iS s)), (1, .int (sumF (σ.1 (iS s) 5) (fun i => σ.1 (iO s i) 2) (i + 1))), (2, .int (nI (i + 1)))] ⟨rfl, (congrArg (fun z => some (Value.int z)) (by simp [sumF, c12])), rfl, trivial⟩ ?_
      exact ih (i + 1) (by omega)
  refine g_aload_n h dX3_allCoins_0 rfl ?_
  refine gf3_52 h (by omega) dX3_allCoins_1 ?_
  refine g_istore_n h dX3_allCoins_4 (by rw [hL]; decide) ?_
  refine g_iconst (v := 0) h dX3_allCoins_5 (by decide) ?_
  refine g_istore_n h dX3_allCoins_6 (by rw [hL]; decide) ?_
  refine g_sub [(0, ra X (iS s)), (1, .int (sumF (σ.1 (iS s) 5) (fun i => σ.1 (iO s i) 2) 0)), (2, .int (nI 0))] ⟨rfl, rfl, lk_0, trivial⟩ ?_
  exact LOOP n 0 (by omega)
set_option maxRecDepth 100000 in
set_option maxHeartbeats 4000000 in
theorem ct_X3_debtsOf {l : Launch} {X : fX} {σ : fM} {s n m : Nat} (hs : s < 6) (hc : cnt σ s n m) {b : Int32} : Ct l X yX3_debtsOf cX3_debtsOf 4 (some .int) 0 [ra X (iS s), .int b] σ (some (.int (sumF 0 (fun i => if σ.1 (iL s i) 1 = b then σ.1 (iL s i) 2 else 0) m))) σ := by
  refine Ct.of RX3 rfl (by decide) (Nat.le_of_ble_eq_true rfl) ?_
  intro x hL h hr
  refine g_sub [(0, ra X (iS s)), (1, .int b)] ⟨rfl, rfl, trivial⟩ ?_
  obtain ⟨hn, hm, hn6, hm8⟩ := hc
  have LOOP : ∀ (q i : Nat), i + q = m → G x X σ [(0, ra X (iS s)), (1, .int b), (2, .int (sumF 0 (fun i => if σ.1 (iL s i) 1 = b then σ.1 (iL s i) 2 else 0) i)), (3, .int (nI i))] [] 4 := by
    intro q
    induction q with
    | zero =>
      intro i hi 
      obtain rfl : i = m := by omega
      refine g_iload_n h dX3_debtsOf_4 rfl ?_
      refine g_aload_n h dX3_debtsOf_5 rfl ?_
      refine gf3_40 h (by omega) dX3_debtsOf_6 ?_
      refine g_icge h 43 dX3_debtsOf_9 (by decide) (fun c9 => ?_) (fun c9 => absurd (by rw [hm]; exact Int32.le_refl _) c9)
      refine g_iload_n h dX3_debtsOf_43 rfl ?_
      exact g_iret h hr dX3_debtsOf_44 rfl rfl
    | succ q ih =>
      intro i hi 
      have hlt : i < m := by omega
      refine g_iload_n h dX3_debtsOf_4 rfl ?_
      refine g_aload_n h dX3_debtsOf_5 rfl ?_
      refine gf3_40 h (by omega) dX3_debtsOf_6 ?_
      refine g_icge h 43 dX3_debtsOf_9 (by decide) (fun c9 => absurd c9 (by rw [hm]; exact nI_ge hlt (by omega))) (fun c9 => ?_)
      refine g_aload_n h dX3_debtsOf_12 rfl ?_
      refine gf3_20 h (by omega) dX3_debtsOf_13 ?_
      refine g_iload_n h dX3_debtsOf_16 rfl ?_
      refine g_aaldL h (by omega) rfl (by omega) dX3_debtsOf_17 ?_
      refine gf3_91 h (by omega) (by omega) dX3_debtsOf_18 ?_
      refine g_iload_n h dX3_debtsOf_21 rfl ?_
      refine g_icne h 37 dX3_debtsOf_22 (by decide) (fun c22 => ?_) (fun c22 => ?_)
      · refine g_iincN h dX3_debtsOf_37 rfl (by rw [hL]; decide) ?_
        refine g_goto h 4 dX3_debtsOf_40 (by decide) ?_
        refine g_sub [(0, ra X (iS s)), (1, .int b), (2, .int (sumF 0 (fun i => if σ.1 (iL s i) 1 = b then σ.1 (iL s i) 2 else 0) (i + 1))), (3, .int (nI (i + 1)))] ⟨rfl, rfl, (congrArg (fun z => some (Value.int z)) (by simp [sumF, c9, c22])), rfl, trivial⟩ ?_
        exact ih (i + 1) (by omega)
      · refine g_iload_n h dX3_debtsOf_25 rfl ?_
        refine g_aload_n h dX3_debtsOf_26 rfl ?_
        refine gf3_20 h (by omega) dX3_debtsOf_27 ?_
        refine g_iload_n h dX3_debtsOf_30 rfl ?_
        refine g_aaldL h (by omega) rfl (by omega) dX3_debtsOf_31 ?_
        refine gf3_94 h (by omega) (by omega) dX3_debtsOf_32 ?_
        refine g_iadd h dX3_debtsOf_35 ?_
        refine g_istore_n h dX3_debtsOf_36 (by rw [hL]; decide) ?_
        refine g_iincN h dX3_debtsOf_37 rfl (by rw [hL]; decide) ?_
        refine g_goto h 4 dX3_debtsOf_40 (by decide) ?_
        refine g_sub [(0, ra X (iS s)), (1, .int b), (2, .int (sumF 0 (fun i => if σ.1 (iL s i) 1 = b then σ.1 (iL s i) 2 else 0) (i + 1))), (3, .int (nI (i + 1)))] ⟨rfl, rfl, (congrArg (fun z => some (Value.int z)) (by simp [sumF, c9, c22])), rfl, trivial⟩ ?_
        exact ih (i + 1) (by omega)
  refine g_iconst (v := 0) h dX3_debtsOf_0 (by decide) ?_
  refine g_istore_n h dX3_debtsOf_1 (by rw [hL]; decide) ?_
  refine g_iconst (v := 0) h dX3_debtsOf_2 (by decide) ?_
  refine g_istore_n h dX3_debtsOf_3 (by rw [hL]; decide) ?_
  refine g_sub [(0, ra X (iS s)), (1, .int b), (2, .int (sumF 0 (fun i => if σ.1 (iL s i) 1 = b then σ.1 (iL s i) 2 else 0) 0)), (3, .int (nI 0))] ⟨rfl, rfl, rfl, lk_0, trivial⟩ ?_
  exact LOOP m 0 (by omega)
set_option maxRecDepth 100000 in
set_option maxHeartbeats 4000000 in
theorem ct_X3_claimsOf {l : Launch} {X : fX} {σ : fM} {s n m : Nat} (hs : s < 6) (hc : cnt σ s n m) {b : Int32} : Ct l X yX3_claimsOf cX3_claimsOf 4 (some .int) 0 [ra X (iS s), .int b] σ (some (.int (sumF 0 (fun i => if σ.1 (iL s i) 0 = b then σ.1 (iL s i) 2 else 0) m))) σ := by
  refine Ct.of RX3 rfl (by decide) (Nat.le_of_ble_eq_true rfl) ?_
  intro x hL h hr
  refine g_sub [(0, ra X (iS s)), (1, .int b)] ⟨rfl, rfl, trivial⟩ ?_
  obtain ⟨hn, hm, hn6, hm8⟩ := hc
  have LOOP : ∀ (q i : Nat), i + q = m → G x X σ [(0, ra X (iS s)), (1, .int b), (2, .int (sumF 0 (fun i => if σ.1 (iL s i) 0 = b then σ.1 (iL s i) 2 else 0) i)), (3, .int (nI i))] [] 4 := by
    intro q
    induction q with
    | zero =>
      intro i hi 
      obtain rfl : i = m := by omega
      refine g_iload_n h dX3_claimsOf_4 rfl ?_
      refine g_aload_n h dX3_claimsOf_5 rfl ?_
      refine gf3_40 h (by omega) dX3_claimsOf_6 ?_
      refine g_icge h 43 dX3_claimsOf_9 (by decide) (fun c9 => ?_) (fun c9 => absurd (by rw [hm]; exact Int32.le_refl _) c9)
      refine g_iload_n h dX3_claimsOf_43 rfl ?_
      exact g_iret h hr dX3_claimsOf_44 rfl rfl
    | succ q ih =>
      intro i hi 
      have hlt : i < m := by omega
      refine g_iload_n h dX3_claimsOf_4 rfl ?_
      refine g_aload_n h dX3_claimsOf_5 rfl ?_
      refine gf3_40 h (by omega) dX3_claimsOf_6 ?_
      refine g_icge h 43 dX3_claimsOf_9 (by decide) (fun c9 => absurd c9 (by rw [hm]; exact nI_ge hlt (by omega))) (fun c9 => ?_)
      refine g_aload_n h dX3_claimsOf_12 rfl ?_
      refine gf3_20 h (by omega) dX3_claimsOf_13 ?_
      refine g_iload_n h dX3_claimsOf_16 rfl ?_
      refine g_aaldL h (by omega) rfl (by omega) dX3_claimsOf_17 ?_
      refine gf3_88 h (by omega) (by omega) dX3_claimsOf_18 ?_
      refine g_iload_n h dX3_claimsOf_21 rfl ?_
      refine g_icne h 37 dX3_claimsOf_22 (by decide) (fun c22 => ?_) (fun c22 => ?_)
      · refine g_iincN h dX3_claimsOf_37 rfl (by rw [hL]; decide) ?_
        refine g_goto h 4 dX3_claimsOf_40 (by decide) ?_
        refine g_sub [(0, ra X (iS s)), (1, .int b), (2, .int (sumF 0 (fun i => if σ.1 (iL s i) 0 = b then σ.1 (iL s i) 2 else 0) (i + 1))), (3, .int (nI (i + 1)))] ⟨rfl, rfl, (congrArg (fun z => some (Value.int z)) (by simp [sumF, c9, c22])), rfl, trivial⟩ ?_
        exact ih (i + 1) (by omega)
      · refine g_iload_n h dX3_claimsOf_25 rfl ?_
        refine g_aload_n h dX3_claimsOf_26 rfl ?_
        refine gf3_20 h (by omega) dX3_claimsOf_27 ?_
        refine g_iload_n h dX3_claimsOf_30 rfl ?_
        refine g_aaldL h (by omega) rfl (by omega) dX3_claimsOf_31 ?_
        refine gf3_94 h (by omega) (by omega) dX3_claimsOf_32 ?_
        refine g_iadd h dX3_claimsOf_35 ?_
        refine g_istore_n h dX3_claimsOf_36 (by rw [hL]; decide) ?_
        refine g_iincN h dX3_claimsOf_37 rfl (by rw [hL]; decide) ?_
        refine g_goto h 4 dX3_claimsOf_40 (by decide) ?_
        refine g_sub [(0, ra X (iS s)), (1, .int b), (2, .int (sumF 0 (fun i => if σ.1 (iL s i) 0 = b then σ.1 (iL s i) 2 else 0) (i + 1))), (3, .int (nI (i + 1)))] ⟨rfl, rfl, (congrArg (fun z => some (Value.int z)) (by simp [sumF, c9, c22])), rfl, trivial⟩ ?_
        exact ih (i + 1) (by omega)
  refine g_iconst (v := 0) h dX3_claimsOf_0 (by decide) ?_
  refine g_istore_n h dX3_claimsOf_1 (by rw [hL]; decide) ?_
  refine g_iconst (v := 0) h dX3_claimsOf_2 (by decide) ?_
  refine g_istore_n h dX3_claimsOf_3 (by rw [hL]; decide) ?_
  refine g_sub [(0, ra X (iS s)), (1, .int b), (2, .int (sumF 0 (fun i => if σ.1 (iL s i) 0 = b then σ.1 (iL s i) 2 else 0) 0)), (3, .int (nI 0))] ⟨rfl, rfl, rfl, lk_0, trivial⟩ ?_
  exact LOOP m 0 (by omega)
set_option maxRecDepth 100000 in
set_option maxHeartbeats 4000000 in
theorem ct_X3_stakesOn {l : Launch} {X : fX} {σ : fM} {s n m : Nat} (hs : s < 6) (hc : cnt σ s n m) {b : Int32} : Ct l X yX3_stakesOn cX3_stakesOn 4 (some .int) 0 [ra X (iS s), .int b] σ (some (.int (sumF 0 (fun i => if σ.1 (iO s i) 9 = b then σ.1 (iO s i) 10 else 0) n))) σ := by
  refine Ct.of RX3 rfl (by decide) (Nat.le_of_ble_eq_true rfl) ?_
  intro x hL h hr
  refine g_sub [(0, ra X (iS s)), (1, .int b)] ⟨rfl, rfl, trivial⟩ ?_
  obtain ⟨hn, hm, hn6, hm8⟩ := hc
  have LOOP : ∀ (q i : Nat), i + q = n → G x X σ [(0, ra X (iS s)), (1, .int b), (2, .int (sumF 0 (fun i => if σ.1 (iO s i) 9 = b then σ.1 (iO s i) 10 else 0) i)), (3, .int (nI i))] [] 4 := by
    intro q
    induction q with
    | zero =>
      intro i hi 
      obtain rfl : i = n := by omega
      refine g_iload_n h dX3_stakesOn_4 rfl ?_
      refine g_aload_n h dX3_stakesOn_5 rfl ?_
      refine gf3_32 h (by omega) dX3_stakesOn_6 ?_
      refine g_icge h 43 dX3_stakesOn_9 (by decide) (fun c9 => ?_) (fun c9 => absurd (by rw [hn]; exact Int32.le_refl _) c9)
      refine g_iload_n h dX3_stakesOn_43 rfl ?_
      exact g_iret h hr dX3_stakesOn_44 rfl rfl
    | succ q ih =>
      intro i hi 
      have hlt : i < n := by omega
      refine g_iload_n h dX3_stakesOn_4 rfl ?_
      refine g_aload_n h dX3_stakesOn_5 rfl ?_
      refine gf3_32 h (by omega) dX3_stakesOn_6 ?_
      refine g_icge h 43 dX3_stakesOn_9 (by decide) (fun c9 => absurd c9 (by rw [hn]; exact nI_ge hlt (by omega))) (fun c9 => ?_)
      refine g_aload_n h dX3_stakesOn_12 rfl ?_
      refine gf3_11 h (by omega) dX3_stakesOn_13 ?_
      refine g_iload_n h dX3_stakesOn_16 rfl ?_
      refine g_aaldO h (by omega) rfl (by omega) dX3_stakesOn_17 ?_
      refine gf3_111 h (by omega) (by omega) dX3_stakesOn_18 ?_
      refine g_iload_n h dX3_stakesOn_21 rfl ?_
      refine g_icne h 37 dX3_stakesOn_22 (by decide) (fun c22 => ?_) (fun c22 => ?_)
      · refine g_iincN h dX3_stakesOn_37 rfl (by rw [hL]; decide) ?_
        refine g_goto h 4 dX3_stakesOn_40 (by decide) ?_
        refine g_sub [(0, ra X (iS s)), (1, .int b), (2, .int (sumF 0 (fun i => if σ.1 (iO s i) 9 = b then σ.1 (iO s i) 10 else 0) (i + 1))), (3, .int (nI (i + 1)))] ⟨rfl, rfl, (congrArg (fun z => some (Value.int z)) (by simp [sumF, c9, c22])), rfl, trivial⟩ ?_
        exact ih (i + 1) (by omega)
      · refine g_iload_n h dX3_stakesOn_25 rfl ?_
        refine g_aload_n h dX3_stakesOn_26 rfl ?_
        refine gf3_11 h (by omega) dX3_stakesOn_27 ?_
        refine g_iload_n h dX3_stakesOn_30 rfl ?_
        refine g_aaldO h (by omega) rfl (by omega) dX3_stakesOn_31 ?_
        refine gf3_101 h (by omega) (by omega) dX3_stakesOn_32 ?_
        refine g_iadd h dX3_stakesOn_35 ?_
        refine g_istore_n h dX3_stakesOn_36 (by rw [hL]; decide) ?_
        refine g_iincN h dX3_stakesOn_37 rfl (by rw [hL]; decide) ?_
        refine g_goto h 4 dX3_stakesOn_40 (by decide) ?_
        refine g_sub [(0, ra X (iS s)), (1, .int b), (2, .int (sumF 0 (fun i => if σ.1 (iO s i) 9 = b then σ.1 (iO s i) 10 else 0) (i + 1))), (3, .int (nI (i + 1)))] ⟨rfl, rfl, (congrArg (fun z => some (Value.int z)) (by simp [sumF, c9, c22])), rfl, trivial⟩ ?_
        exact ih (i + 1) (by omega)
  refine g_iconst (v := 0) h dX3_stakesOn_0 (by decide) ?_
  refine g_istore_n h dX3_stakesOn_1 (by rw [hL]; decide) ?_
  refine g_iconst (v := 0) h dX3_stakesOn_2 (by decide) ?_
  refine g_istore_n h dX3_stakesOn_3 (by rw [hL]; decide) ?_
  refine g_sub [(0, ra X (iS s)), (1, .int b), (2, .int (sumF 0 (fun i => if σ.1 (iO s i) 9 = b then σ.1 (iO s i) 10 else 0) 0)), (3, .int (nI 0))] ⟨rfl, rfl, rfl, lk_0, trivial⟩ ?_
  exact LOOP n 0 (by omega)
set_option maxRecDepth 100000 in
set_option maxHeartbeats 4000000 in
theorem ct_X3_richerThan {l : Launch} {X : fX} {σ : fM} {s n m : Nat} (hs : s < 6) (hc : cnt σ s n m) {j : Nat} (hj : j < n) : Ct l X yX3_richerThan cX3_richerThan 5 (some .int) 0 [ra X (iS s), .int (nI j)] σ (some (.int (sumF 0 (fun i => if σ.1 (iO s j) 2 < σ.1 (iO s i) 2 ∨ (σ.1 (iO s i) 2 = σ.1 (iO s j) 2 ∧ nI i < nI j) then 1 else 0) n))) σ := by
  refine Ct.of RX3 rfl (by decide) (Nat.le_of_ble_eq_true rfl) ?_
  intro x hL h hr
  refine g_sub [(0, ra X (iS s)), (1, .int (nI j))] ⟨rfl, rfl, trivial⟩ ?_
  obtain ⟨hn, hm, hn6, hm8⟩ := hc
  have LOOP : ∀ (q i : Nat), i + q = n → G x X σ [(0, ra X (iS s)), (1, .int (nI j)), (2, .int (σ.1 (iO s j) 2)), (3, .int (sumF 0 (fun i => if σ.1 (iO s j) 2 < σ.1 (iO s i) 2 ∨ (σ.1 (iO s i) 2 = σ.1 (iO s j) 2 ∧ nI i < nI j) then 1 else 0) i)), (4, .int (nI i))] [] 15 := by
    intro q
    induction q with
    | zero =>
      intro i hi 
      obtain rfl : i = n := by omega
      refine g_iload h dX3_richerThan_15 rfl ?_
      refine g_aload_n h dX3_richerThan_17 rfl ?_
      refine gf3_32 h (by omega) dX3_richerThan_18 ?_
      refine g_icge h 67 dX3_richerThan_21 (by decide) (fun c21 => ?_) (fun c21 => absurd (by rw [hn]; exact Int32.le_refl _) c21)
      refine g_iload_n h dX3_richerThan_67 rfl ?_
      exact g_iret h hr dX3_richerThan_68 rfl rfl
    | succ q ih =>
      intro i hi 
      have hlt : i < n := by omega
      refine g_iload h dX3_richerThan_15 rfl ?_
      refine g_aload_n h dX3_richerThan_17 rfl ?_
      refine gf3_32 h (by omega) dX3_richerThan_18 ?_
      refine g_icge h 67 dX3_richerThan_21 (by decide) (fun c21 => absurd c21 (by rw [hn]; exact nI_ge hlt (by omega))) (fun c21 => ?_)
      refine g_aload_n h dX3_richerThan_24 rfl ?_
      refine gf3_11 h (by omega) dX3_richerThan_25 ?_
      refine g_iload h dX3_richerThan_28 rfl ?_
      refine g_aaldO h (by omega) rfl (by omega) dX3_richerThan_30 ?_
      refine gf3_85 h (by omega) (by omega) dX3_richerThan_31 ?_
      refine g_iload_n h dX3_richerThan_34 rfl ?_
      refine g_icgt h 58 dX3_richerThan_35 (by decide) (fun c35 => ?_) (fun c35 => ?_)
      · refine g_iinc1 h dX3_richerThan_58 rfl (by rw [hL]; decide) ?_
        refine g_iincN h dX3_richerThan_61 rfl (by rw [hL]; decide) ?_
        refine g_goto h 15 dX3_richerThan_64 (by decide) ?_
        refine g_sub [(0, ra X (iS s)), (1, .int (nI j)), (2, .int (σ.1 (iO s j) 2)), (3, .int (sumF 0 (fun i => if σ.1 (iO s j) 2 < σ.1 (iO s i) 2 ∨ (σ.1 (iO s i) 2 = σ.1 (iO s j) 2 ∧ nI i < nI j) then 1 else 0) (i + 1))), (4, .int (nI (i + 1)))] ⟨rfl, rfl, rfl, (congrArg (fun z => some (Value.int z)) (by simp [sumF, c21, c35])), rfl, trivial⟩ ?_
        exact ih (i + 1) (by omega)
      · refine g_aload_n h dX3_richerThan_38 rfl ?_
        refine gf3_11 h (by omega) dX3_richerThan_39 ?_
        refine g_iload h dX3_richerThan_42 rfl ?_
        refine g_aaldO h (by omega) rfl (by omega) dX3_richerThan_44 ?_
        refine gf3_85 h (by omega) (by omega) dX3_richerThan_45 ?_
        refine g_iload_n h dX3_richerThan_48 rfl ?_
        refine g_icne h 61 dX3_richerThan_49 (by decide) (fun c49 => ?_) (fun c49 => ?_)
        · refine g_iincN h dX3_richerThan_61 rfl (by rw [hL]; decide) ?_
          refine g_goto h 15 dX3_richerThan_64 (by decide) ?_
          refine g_sub [(0, ra X (iS s)), (1, .int (nI j)), (2, .int (σ.1 (iO s j) 2)), (3, .int (sumF 0 (fun i => if σ.1 (iO s j) 2 < σ.1 (iO s i) 2 ∨ (σ.1 (iO s i) 2 = σ.1 (iO s j) 2 ∧ nI i < nI j) then 1 else 0) (i + 1))), (4, .int (nI (i + 1)))] ⟨rfl, rfl, rfl, (congrArg (fun z => some (Value.int z)) (by simp [sumF, c21, c35, c49])), rfl, trivial⟩ ?_
          exact ih (i + 1) (by omega)
        · refine g_iload h dX3_richerThan_52 rfl ?_
          refine g_iload_n h dX3_richerThan_54 rfl ?_
          refine g_icge h 61 dX3_richerThan_55 (by decide) (fun c55 => ?_) (fun c55 => ?_)
          · refine g_iincN h dX3_richerThan_61 rfl (by rw [hL]; decide) ?_
            refine g_goto h 15 dX3_richerThan_64 (by decide) ?_
            refine g_sub [(0, ra X (iS s)), (1, .int (nI j)), (2, .int (σ.1 (iO s j) 2)), (3, .int (sumF 0 (fun i => if σ.1 (iO s j) 2 < σ.1 (iO s i) 2 ∨ (σ.1 (iO s i) 2 = σ.1 (iO s j) 2 ∧ nI i < nI j) then 1 else 0) (i + 1))), (4, .int (nI (i + 1)))] ⟨rfl, rfl, rfl, (congrArg (fun z => some (Value.int z)) (by simp [sumF, c21, c35, c49, c55])), rfl, trivial⟩ ?_
            exact ih (i + 1) (by omega)
          · refine g_iinc1 h dX3_richerThan_58 rfl (by rw [hL]; decide) ?_
            refine g_iincN h dX3_richerThan_61 rfl (by rw [hL]; decide) ?_
            refine g_goto h 15 dX3_richerThan_64 (by decide) ?_
            refine g_sub [(0, ra X (iS s)), (1, .int (nI j)), (2, .int (σ.1 (iO s j) 2)), (3, .int (sumF 0 (fun i => if σ.1 (iO s j) 2 < σ.1 (iO s i) 2 ∨ (σ.1 (iO s i) 2 = σ.1 (iO s j) 2 ∧ nI i < nI j) then 1 else 0) (i + 1))), (4, .int (nI (i + 1)))] ⟨rfl, rfl, rfl, (congrArg (fun z => some (Value.int z)) (by simp [sumF, c21, c35, c49, c55])), rfl, trivial⟩ ?_
            exact ih (i + 1) (by omega)
  refine g_aload_n h dX3_richerThan_0 rfl ?_
  refine gf3_11 h (by omega) dX3_richerThan_1 ?_
  refine g_iload_n h dX3_richerThan_4 rfl ?_
  refine g_aaldO h (by omega) rfl (by omega) dX3_richerThan_5 ?_
  refine gf3_85 h (by omega) (by omega) dX3_richerThan_6 ?_
  refine g_istore_n h dX3_richerThan_9 (by rw [hL]; decide) ?_
  refine g_iconst (v := 0) h dX3_richerThan_10 (by decide) ?_
  refine g_istore_n h dX3_richerThan_11 (by rw [hL]; decide) ?_
  refine g_iconst (v := 0) h dX3_richerThan_12 (by decide) ?_
  refine g_istore h dX3_richerThan_13 (by rw [hL]; decide) ?_
  refine g_sub [(0, ra X (iS s)), (1, .int (nI j)), (2, .int (σ.1 (iO s j) 2)), (3, .int (sumF 0 (fun i => if σ.1 (iO s j) 2 < σ.1 (iO s i) 2 ∨ (σ.1 (iO s i) 2 = σ.1 (iO s j) 2 ∧ nI i < nI j) then 1 else 0) 0)), (4, .int (nI 0))] ⟨rfl, rfl, rfl, rfl, lk_0, trivial⟩ ?_
  exact LOOP n 0 (by omega)
set_option maxRecDepth 100000 in
set_option maxHeartbeats 4000000 in
theorem ct_X3_isTaken {l : Launch} {X : fX} {σ : fM} {s n m : Nat} (hs : s < 6) (hc : cnt σ s n m) {b p : Int32} : Ct l X yX3_isTaken cX3_isTaken 4 (some .boolean) 0 [ra X (iS s), .int b, .int p] σ (some (.int (bi (anyF (fun i => decide (σ.1 (iO s i) 3 = b) && decide (σ.1 (iO s i) 4 = p)) n)))) σ := by
  refine Ct.of RX3 rfl (by decide) (Nat.le_of_ble_eq_true rfl) ?_
  intro x hL h hr
  refine g_sub [(0, ra X (iS s)), (1, .int b), (2, .int p)] ⟨rfl, rfl, rfl, trivial⟩ ?_
  obtain ⟨hn, hm, hn6, hm8⟩ := hc
  have LOOP : ∀ (q i : Nat), i + q = n → anyF (fun i => decide (σ.1 (iO s i) 3 = b) && decide (σ.1 (iO s i) 4 = p)) i = false → G x X σ [(0, ra X (iS s)), (1, .int b), (2, .int p), (3, .int (nI i))] [] 2 := by
    intro q
    induction q with
    | zero =>
      intro i hi hf
      obtain rfl : i = n := by omega
      refine g_iload_n h dX3_isTaken_2 rfl ?_
      refine g_aload_n h dX3_isTaken_3 rfl ?_
      refine gf3_32 h (by omega) dX3_isTaken_4 ?_
      refine g_icge h 44 dX3_isTaken_7 (by decide) (fun c7 => ?_) (fun c7 => absurd (by rw [hn]; exact Int32.le_refl _) c7)
      refine g_iconst (v := 0) h dX3_isTaken_44 (by decide) ?_
      exact g_zret h hr (by first | rfl | exact bi_n _) dX3_isTaken_45 (by rw [hf]; rfl) rfl
    | succ q ih =>
      intro i hi hf
      have hlt : i < n := by omega
      refine g_iload_n h dX3_isTaken_2 rfl ?_
      refine g_aload_n h dX3_isTaken_3 rfl ?_
      refine gf3_32 h (by omega) dX3_isTaken_4 ?_
      refine g_icge h 44 dX3_isTaken_7 (by decide) (fun c7 => absurd c7 (by rw [hn]; exact nI_ge hlt (by omega))) (fun c7 => ?_)
      refine g_aload_n h dX3_isTaken_10 rfl ?_
      refine gf3_11 h (by omega) dX3_isTaken_11 ?_
      refine g_iload_n h dX3_isTaken_14 rfl ?_
      refine g_aaldO h (by omega) rfl (by omega) dX3_isTaken_15 ?_
      refine gf3_68 h (by omega) (by omega) dX3_isTaken_16 ?_
      refine g_iload_n h dX3_isTaken_19 rfl ?_
      refine g_icne h 38 dX3_isTaken_20 (by decide) (fun c20 => ?_) (fun c20 => ?_)
      · refine g_iincN h dX3_isTaken_38 rfl (by rw [hL]; decide) ?_
        refine g_goto h 2 dX3_isTaken_41 (by decide) ?_
        refine g_sub [(0, ra X (iS s)), (1, .int b), (2, .int p), (3, .int (nI (i + 1)))] ⟨rfl, rfl, rfl, rfl, trivial⟩ ?_
        exact ih (i + 1) (by omega) (by simp [anyF, hf, c7, c20])
      · refine g_aload_n h dX3_isTaken_23 rfl ?_
        refine gf3_11 h (by omega) dX3_isTaken_24 ?_
        refine g_iload_n h dX3_isTaken_27 rfl ?_
        refine g_aaldO h (by omega) rfl (by omega) dX3_isTaken_28 ?_
        refine gf3_75 h (by omega) (by omega) dX3_isTaken_29 ?_
        refine g_iload_n h dX3_isTaken_32 rfl ?_
        refine g_icne h 38 dX3_isTaken_33 (by decide) (fun c33 => ?_) (fun c33 => ?_)
        · refine g_iincN h dX3_isTaken_38 rfl (by rw [hL]; decide) ?_
          refine g_goto h 2 dX3_isTaken_41 (by decide) ?_
          refine g_sub [(0, ra X (iS s)), (1, .int b), (2, .int p), (3, .int (nI (i + 1)))] ⟨rfl, rfl, rfl, rfl, trivial⟩ ?_
          exact ih (i + 1) (by omega) (by simp [anyF, hf, c7, c20, c33])
        · refine g_iconst (v := 1) h dX3_isTaken_36 (by decide) ?_
          exact g_zret h hr (by first | rfl | exact bi_n _) dX3_isTaken_37 (by rw [anyF_t hlt (by simp [c7, c20, c33])]; rfl) rfl
  refine g_iconst (v := 0) h dX3_isTaken_0 (by decide) ?_
  refine g_istore_n h dX3_isTaken_1 (by rw [hL]; decide) ?_
  refine g_sub [(0, ra X (iS s)), (1, .int b), (2, .int p), (3, .int (nI 0))] ⟨rfl, rfl, rfl, lk_0, trivial⟩ ?_
  exact LOOP n 0 (by omega) rfl
def tak (σ : fM) (s n : Nat) (b p : Int32) : Bool := anyF (fun i => decide (σ.1 (iO s i) 3 = b) && decide (σ.1 (iO s i) 4 = p)) n

set_option maxRecDepth 100000 in
set_option maxHeartbeats 4000000 in
theorem ct_X3_lowestFreeSeat {l : Launch} {X : fX} {σ : fM} {s n m : Nat} (hs : s < 6) (hc : cnt σ s n m) {b : Int32} : Ct l X yX3_lowestFreeSeat cX3_lowestFreeSeat 3 (some .int) 1 [ra X (iS s), .int b] σ (some (.int (if tak σ s n b 0 = true then (if tak σ s n b 1 = true then -1 else 1) else 0))) σ := by
  refine Ct.of RX3 rfl (by decide) (Nat.le_of_ble_eq_true rfl) ?_
  intro x hL h hr
  refine g_sub [(0, ra X (iS s)), (1, .int b)] ⟨rfl, rfl, trivial⟩ ?_
  refine g_iconst (v := 0) h dX3_lowestFreeSeat_0 (by decide) ?_
  refine g_istore_n h dX3_lowestFreeSeat_1 (by rw [hL]; decide) ?_
  refine g_iload_n h dX3_lowestFreeSeat_2 rfl ?_
  refine g_iconst (v := 2) h dX3_lowestFreeSeat_3 (by decide) ?_
  refine g_icge h 24 dX3_lowestFreeSeat_4 (by decide) (fun c4 => absurd c4 (by decide)) (fun c4 => ?_)
  refine g_aload_n h dX3_lowestFreeSeat_7 rfl ?_
  refine g_iload_n h dX3_lowestFreeSeat_8 rfl ?_
  refine g_iload_n h dX3_lowestFreeSeat_9 rfl ?_
  refine cl3_71 h (by omega) (ct_X3_isTaken hs hc) rfl dX3_lowestFreeSeat_10 rfl (Nat.le_of_ble_eq_true rfl) (by decide) ?_
  refine g_ifneB h 18 dX3_lowestFreeSeat_13 (by decide) (fun c13 => ?_) (fun c13 => ?_)
  · refine g_iinc1 h dX3_lowestFreeSeat_18 rfl (by rw [hL]; decide) ?_
    refine g_goto h 2 dX3_lowestFreeSeat_21 (by decide) ?_
    refine g_iload_n h dX3_lowestFreeSeat_2 rfl ?_
    refine g_iconst (v := 2) h dX3_lowestFreeSeat_3 (by decide) ?_
    refine g_icge h 24 dX3_lowestFreeSeat_4 (by decide) (fun c4 => absurd c4 (by decide)) (fun c4 => ?_)
    refine g_aload_n h dX3_lowestFreeSeat_7 rfl ?_
    refine g_iload_n h dX3_lowestFreeSeat_8 rfl ?_
    refine g_iload_n h dX3_lowestFreeSeat_9 rfl ?_
    refine cl3_71 h (by omega) (ct_X3_isTaken hs hc) rfl dX3_lowestFreeSeat_10 rfl (Nat.le_of_ble_eq_true rfl) (by decide) ?_
    refine g_ifneB h 18 dX3_lowestFreeSeat_13 (by decide) (fun c13 => ?_) (fun c13 => ?_)
    · refine g_iinc1 h dX3_lowestFreeSeat_18 rfl (by rw [hL]; decide) ?_
      refine g_goto h 2 dX3_lowestFreeSeat_21 (by decide) ?_
      refine g_iload_n h dX3_lowestFreeSeat_2 rfl ?_
      refine g_iconst (v := 2) h dX3_lowestFreeSeat_3 (by decide) ?_
      refine g_icge h 24 dX3_lowestFreeSeat_4 (by decide) (fun c4 => ?_) (fun c4 => absurd (by decide) c4)
      refine g_iconst (v := (-1)) h dX3_lowestFreeSeat_24 (by decide) ?_
      exact g_iret h hr dX3_lowestFreeSeat_25 (by first | (simp [tak, c4, c13, c4, c13, c4]; done) | (simp_all [tak]; done)) rfl
    · refine g_iload_n h dX3_lowestFreeSeat_16 rfl ?_
      exact g_iret h hr dX3_lowestFreeSeat_17 (by first | (simp [tak, c4, c13, c4, c13]; done) | (simp_all [tak]; done)) rfl
  · refine g_iload_n h dX3_lowestFreeSeat_16 rfl ?_
    exact g_iret h hr dX3_lowestFreeSeat_17 (by first | (simp [tak, c4, c13]; done) | (simp_all [tak]; done)) rfl
end
section
/-! State: what changes it -/
/-- rows put one behind another -/
def setF (σ : fM) (ix : Nat → Nat) (r : Nat → Nat → Int32) : Nat → fM
  | 0 => σ
  | n + 1 => puR (setF σ ix r n) (ix n) (r n)
theorem setF_ne {σ : fM} {ix : Nat → Nat} {r : Nat → Nat → Int32} {k : Nat} : ∀ {n : Nat}, (∀ i, i < n → ix i ≠ k) → (setF σ ix r n).1 k = σ.1 k
  | 0, _ => rfl
  | n + 1, h => by
    show (puR (setF σ ix r n) (ix n) (r n)).1 k = _
    rw [puR_ne _ (h n (Nat.lt_succ_self n)).symm]
    exact setF_ne (fun i hi => h i (Nat.lt_succ_of_lt hi))
theorem setF_at {σ : fM} {ix : Nat → Nat} {r : Nat → Nat → Int32} (hx : ∀ a b, ix a = ix b → a = b) {i : Nat} : ∀ {n : Nat}, i < n → (setF σ ix r n).1 (ix i) = r i
  | 0, h => absurd h (Nat.not_lt_zero _)
  | n + 1, h => by
    show (puR (setF σ ix r n) (ix n) (r n)).1 (ix i) = _
    by_cases hi : i = n
    · subst hi; rw [puR_self]
    · rw [puR_ne _ (fun e => hi (hx _ _ e)), setF_at hx (by omega)]
theorem setF_2 (σ : fM) (ix : Nat → Nat) (r : Nat → Nat → Int32) : ∀ (n : Nat), (setF σ ix r n).2 = σ.2
  | 0 => rfl
  | n + 1 => setF_2 σ ix r n
theorem setF_off {σ : fM} {ix : Nat → Nat} {r : Nat → Nat → Int32} (hx : ∀ a b, ix a = ix b → a = b) {i n : Nat} (h : n ≤ i) : (setF σ ix r n).1 (ix i) = σ.1 (ix i) := setF_ne (fun j hj e => by have := hx _ _ e; omega)
theorem iO_inj (s : Nat) : ∀ a b, iO s a = iO s b → a = b := by unfold iO; intros; omega
theorem iT_inj (s : Nat) : ∀ a b, iT s a = iT s b → a = b := by unfold iT; intros; omega
theorem iL_inj (s : Nat) : ∀ a b, iL s a = iL s b → a = b := by unfold iL; intros; omega
theorem iO_S (s i s' : Nat) (hi : i < 6) : iO s i ≠ iS s' := by unfold iO iS; omega
theorem iO_Set (s i s' : Nat) (hi : i < 6) : iO s i ≠ iSet s' := by unfold iO iSet; omega
theorem iT_S (s i s' : Nat) (hi : i < 6) : iT s i ≠ iS s' := by unfold iT iS; omega
theorem iT_Set (s i s' : Nat) (hi : i < 6) : iT s i ≠ iSet s' := by unfold iT iSet; omega
theorem iL_S (s l s' : Nat) (hl : l < 8) : iL s l ≠ iS s' := by unfold iL iS; omega
theorem iL_Set (s l s' : Nat) (hl : l < 8) : iL s l ≠ iSet s' := by unfold iL iSet; omega
theorem iL_O (s l s' i : Nat) (hl : l < 8) (hi : i < 6) : iL s l ≠ iO s' i := by unfold iL iO; omega
theorem iL_T (s l s' i : Nat) (hl : l < 8) (hi : i < 6) : iL s l ≠ iT s' i := by unfold iL iT; omega
theorem iS_Set (s s' : Nat) : iS s ≠ iSet s' := by unfold iS iSet; omega
/-- the ints of an oracle that are changed by what is foretold don't count for what it says -/
theorem oWord_cg {f f' t : Nat → Int32} {a hi : Int32} (h0 : f' 0 = f 0) (h1 : f' 1 = f 1) : oWord f' t a hi = oWord f t a hi := by unfold oWord oTab oSlot oMask; rw [h0, h1]
theorem oIn_cg {f f' : Nat → Int32} (h0 : f' 2 = f 2) (h1 : f' 3 = f 3) : oIn f' = oIn f := by unfold oIn oSeat oRuin; rw [h0, h1]
theorem oWord_u10 (f t : Nat → Int32) (v a hi : Int32) : oWord (upd f 10 v) t a hi = oWord f t a hi := oWord_cg (upd_n _ _ _ _ (by decide)) (upd_n _ _ _ _ (by decide))
theorem oIn_u10 (f : Nat → Int32) (v w : Int32) : oIn (upd (upd f 10 v) 9 w) = oIn f := oIn_cg (by rw [upd_n _ _ _ _ (by decide), upd_n _ _ _ _ (by decide)]) (by rw [upd_n _ _ _ _ (by decide), upd_n _ _ _ _ (by decide)])
theorem oGood_u10 {f : Nat → Int32} (v : Int32) (h : oGood f) : oGood (upd f 10 v) := by
  intro ht
  have e : (upd f 10 v) 1 = f 1 := upd_n _ _ _ _ (by decide)
  rw [e]
  exact h (by simpa [oTab, upd_n] using ht)
/-- what is foretold of the branch a: first round -/
def foW (σ : fM) (s : Nat) (a : Int32) (i : Nat) : Int32 := oWord (σ.1 (iO s i)) (σ.1 (iT s i)) a (σ.1 (iS s) 6)
def foSt (σ : fM) (s : Nat) (a : Int32) (i : Nat) : Int32 := oStake (σ.1 (iO s i)) (σ.1 (iT s i)) (σ.1 (iSet s) 0) a (σ.1 (iS s) 6)
def foR1 (σ : fM) (s : Nat) (a : Int32) (i : Nat) : Nat → Int32 := if σ.1 (iO s i) 0 = 4 then upd (σ.1 (iO s i)) 10 (foSt σ s a i) else upd (upd (σ.1 (iO s i)) 10 (foSt σ s a i)) 9 (foW σ s a i)
def foC1 (σ : fM) (s : Nat) (a : Int32) : Nat → Int32 := sumF 0 (fun i => if ¬ σ.1 (iO s i) 0 = 4 ∧ oIn (σ.1 (iO s i)) = true ∧ foW σ s a i = 1 then σ.1 (iO s i) 2 else 0)
def foC0 (σ : fM) (s : Nat) (a : Int32) : Nat → Int32 := sumF 0 (fun i => if ¬ σ.1 (iO s i) 0 = 4 ∧ oIn (σ.1 (iO s i)) = true ∧ ¬ foW σ s a i = 1 then σ.1 (iO s i) 2 else 0)
def foR2 (σ : fM) (s n : Nat) (a : Int32) (i : Nat) : Nat → Int32 := if σ.1 (iO s i) 0 = 4 then upd (foR1 σ s a i) 9 (if foC0 σ s a n ≤ foC1 σ s a n then 0 else 1) else foR1 σ s a i
/-- the memory behind what is foretold -/
def fore (σ : fM) (s n : Nat) (a : Int32) : fM := setF (setF σ (iO s) (foR1 σ s a) n) (iO s) (foR2 σ s n a) n

set_option maxRecDepth 100000 in
set_option maxHeartbeats 4000000 in
theorem ct_X3_foretell {l : Launch} {X : fX} {σ : fM} {s n m : Nat} (hs : s < 6) (hc : cnt σ s n m) {a : Int32} (hg : ∀ i, i < n → oGood (σ.1 (iO s i))) : Ct l X yX3_foretell cX3_foretell 6 none 3 [ra X (iS s), .int a] σ none (fore σ s n a) := by
  refine Ct.of RX3 rfl (by decide) (Nat.le_of_ble_eq_true rfl) ?_
  intro x hL h hr
  refine g_sub [(0, ra X (iS s)), (1, .int a)] ⟨rfl, rfl, trivial⟩ ?_
  obtain ⟨hn, hm, hn6, hm8⟩ := id hc
  have LOOP2 : ∀ (q i : Nat), i + q = n → G x X (setF (setF σ (iO s) (foR1 σ s a) n) (iO s) (foR2 σ s n a) i) [(0, ra X (iS s)), (2, .int (foC1 σ s a n)), (3, .int (foC0 σ s a n)), (4, .int (nI i))] [] 126 := by
    intro q
    induction q with
    | zero =>
      intro i hi 
      have hie : i = n := by omega
      rw [hie]
      have hn : (setF (setF σ (iO s) (foR1 σ s a) n) (iO s) (foR2 σ s n a) n).1 (iS s) 3 = nI n := by rw [show (setF (setF σ (iO s) (foR1 σ s a) n) (iO s) (foR2 σ s n a) n).1 (iS s) = σ.1 (iS s) from (setF_ne (fun j hj => iO_S s j s (by omega))).trans (setF_ne (fun j hj => iO_S s j s (by omega)))]; exact hn
      refine g_iload h dX3_foretell_126 rfl ?_
      refine g_aload_n h dX3_foretell_128 rfl ?_
      refine gf3_32 h (by omega) dX3_foretell_129 ?_
      refine g_icge h 175 dX3_foretell_132 (by decide) (fun c132 => ?_) (fun c132 => absurd (by rw [hn]; exact Int32.le_refl _) c132)
      exact g_vret h hr dX3_foretell_175 rfl
    | succ q ih =>
      intro i hi 
      have hlt : i < n := by omega
      have eO : (setF (setF σ (iO s) (foR1 σ s a) n) (iO s) (foR2 σ s n a) i).1 (iO s i) = foR1 σ s a i := (setF_off (iO_inj s) (Nat.le_refl i)).trans (setF_at (iO_inj s) (by omega))
      have eS : (setF (setF σ (iO s) (foR1 σ s a) n) (iO s) (foR2 σ s n a) i).1 (iS s) = σ.1 (iS s) := (setF_ne (fun j hj => iO_S s j s (by omega))).trans (setF_ne (fun j hj => iO_S s j s (by omega)))
      have hn : (setF (setF σ (iO s) (foR1 σ s a) n) (iO s) (foR2 σ s n a) i).1 (iS s) 3 = nI n := by rw [eS]; exact hn
      have e0 : foR1 σ s a i 0 = σ.1 (iO s i) 0 := by unfold foR1; split <;> simp [upd_n]
      generalize hτ : (setF (setF σ (iO s) (foR1 σ s a) n) (iO s) (foR2 σ s n a) i) = τ at eO eS hn ⊢
      refine g_iload h dX3_foretell_126 rfl ?_
      refine g_aload_n h dX3_foretell_128 rfl ?_
      refine gf3_32 h (by omega) dX3_foretell_129 ?_
      refine g_icge h 175 dX3_foretell_132 (by decide) (fun c132 => absurd c132 (by rw [hn]; exact nI_ge hlt (by omega))) (fun c132 => ?_)
      refine g_aload_n h dX3_foretell_135 rfl ?_
      refine gf3_11 h (by omega) dX3_foretell_136 ?_
      refine g_iload h dX3_foretell_139 rfl ?_
      refine g_aaldO h (by omega) rfl (by omega) dX3_foretell_141 ?_
      refine gf3_104 h (by omega) (by omega) dX3_foretell_142 ?_
      refine g_iconst (v := 4) h dX3_foretell_145 (by decide) ?_
      refine g_icne h 169 dX3_foretell_146 (by decide) (fun c146 => ?_) (fun c146 => ?_)
      · refine g_iincN h dX3_foretell_169 rfl (by rw [hL]; decide) ?_
        refine g_goto h 126 dX3_foretell_172 (by decide) ?_
        refine g_mem (setF (setF σ (iO s) (foR1 σ s a) n) (iO s) (foR2 σ s n a) (i + 1)) (by show _ = puR (setF (setF σ (iO s) (foR1 σ s a) n) (iO s) (foR2 σ s n a) i) (iO s i) (foR2 σ s n a i); rw [hτ]; have e1 : σ.1 (iO s i) 0 = τ.1 (iO s i) 0 := (by rw [eO, e0]); simp only [foR2, ← eO, e1]; simp [pu_puR, puR_puR, puR_self, puR_id, upd_n, c132, c146]) ?_
        refine g_sub [(0, ra X (iS s)), (2, .int (foC1 σ s a n)), (3, .int (foC0 σ s a n)), (4, .int (nI (i + 1)))] ⟨rfl, rfl, rfl, rfl, trivial⟩ ?_
        exact ih (i + 1) (by omega)
      · refine g_aload_n h dX3_foretell_149 rfl ?_
        refine gf3_11 h (by omega) dX3_foretell_150 ?_
        refine g_iload h dX3_foretell_153 rfl ?_
        refine g_aaldO h (by omega) rfl (by omega) dX3_foretell_155 ?_
        refine g_iload_n h dX3_foretell_156 rfl ?_
        refine g_iload_n h dX3_foretell_157 rfl ?_
        refine g_icle h 165 dX3_foretell_158 (by decide) (fun c158 => ?_) (fun c158 => ?_)
        · refine g_iconst (v := 0) h dX3_foretell_165 (by decide) ?_
          refine gp3_111 h (by omega) (by omega) dX3_foretell_166 ?_
          refine g_iincN h dX3_foretell_169 rfl (by rw [hL]; decide) ?_
          refine g_goto h 126 dX3_foretell_172 (by decide) ?_
          refine g_mem (setF (setF σ (iO s) (foR1 σ s a) n) (iO s) (foR2 σ s n a) (i + 1)) (by show _ = puR (setF (setF σ (iO s) (foR1 σ s a) n) (iO s) (foR2 σ s n a) i) (iO s i) (foR2 σ s n a i); rw [hτ]; have e1 : σ.1 (iO s i) 0 = τ.1 (iO s i) 0 := (by rw [eO, e0]); simp only [foR2, ← eO, e1]; simp [pu_puR, puR_puR, puR_self, puR_id, upd_n, c132, c146, c158]) ?_
          refine g_sub [(0, ra X (iS s)), (2, .int (foC1 σ s a n)), (3, .int (foC0 σ s a n)), (4, .int (nI (i + 1)))] ⟨rfl, rfl, rfl, rfl, trivial⟩ ?_
          exact ih (i + 1) (by omega)
        · refine g_iconst (v := 1) h dX3_foretell_161 (by decide) ?_
          refine g_goto h 166 dX3_foretell_162 (by decide) ?_
          refine gp3_111 h (by omega) (by omega) dX3_foretell_166 ?_
          refine g_iincN h dX3_foretell_169 rfl (by rw [hL]; decide) ?_
          refine g_goto h 126 dX3_foretell_172 (by decide) ?_
          refine g_mem (setF (setF σ (iO s) (foR1 σ s a) n) (iO s) (foR2 σ s n a) (i + 1)) (by show _ = puR (setF (setF σ (iO s) (foR1 σ s a) n) (iO s) (foR2 σ s n a) i) (iO s i) (foR2 σ s n a i); rw [hτ]; have e1 : σ.1 (iO s i) 0 = τ.1 (iO s i) 0 := (by rw [eO, e0]); simp only [foR2, ← eO, e1]; simp [pu_puR, puR_puR, puR_self, puR_id, upd_n, c132, c146, c158]) ?_
          refine g_sub [(0, ra X (iS s)), (2, .int (foC1 σ s a n)), (3, .int (foC0 σ s a n)), (4, .int (nI (i + 1)))] ⟨rfl, rfl, rfl, rfl, trivial⟩ ?_
          exact ih (i + 1) (by omega)
  have LOOP1 : ∀ (q i : Nat), i + q = n → G x X (setF σ (iO s) (foR1 σ s a) i) [(0, ra X (iS s)), (1, .int a), (2, .int (foC1 σ s a i)), (3, .int (foC0 σ s a i)), (4, .int (nI i))] [] 7 := by
    intro q
    induction q with
    | zero =>
      intro i hi 
      have hie : i = n := by omega
      rw [hie]
      have hn : (setF σ (iO s) (foR1 σ s a) n).1 (iS s) 3 = nI n := by rw [show (setF σ (iO s) (foR1 σ s a) n).1 (iS s) = σ.1 (iS s) from setF_ne (fun j hj => iO_S s j s (by omega))]; exact hn
      refine g_iload h dX3_foretell_7 rfl ?_
      refine g_aload_n h dX3_foretell_9 rfl ?_
      refine gf3_32 h (by omega) dX3_foretell_10 ?_
      refine g_icge h 123 dX3_foretell_13 (by decide) (fun c13 => ?_) (fun c13 => absurd (by rw [hn]; exact Int32.le_refl _) c13)
      refine g_iconst (v := 0) h dX3_foretell_123 (by decide) ?_
      refine g_istore h dX3_foretell_124 (by rw [hL]; decide) ?_
      refine g_sub [(0, ra X (iS s)), (2, .int (foC1 σ s a n)), (3, .int (foC0 σ s a n)), (4, .int (nI 0))] ⟨rfl, rfl, rfl, lk_0, trivial⟩ ?_
      exact LOOP2 n 0 (by omega)
    | succ q ih =>
      intro i hi 
      have hlt : i < n := by omega
      have eO : (setF σ (iO s) (foR1 σ s a) i).1 (iO s i) = σ.1 (iO s i) := setF_off (iO_inj s) (Nat.le_refl i)
      have eT : (setF σ (iO s) (foR1 σ s a) i).1 (iT s i) = σ.1 (iT s i) := setF_ne (fun j hj => iO_T s j s i)
      have eS : (setF σ (iO s) (foR1 σ s a) i).1 (iS s) = σ.1 (iS s) := setF_ne (fun j hj => iO_S s j s (by omega))
      have eW : (setF σ (iO s) (foR1 σ s a) i).1 (iSet s) = σ.1 (iSet s) := setF_ne (fun j hj => iO_Set s j s (by omega))
      have hn : (setF σ (iO s) (foR1 σ s a) i).1 (iS s) 3 = nI n := by rw [eS]; exact hn
      have hgi : oGood (σ.1 (iO s i)) := hg i (by omega)
      generalize hτ : (setF σ (iO s) (foR1 σ s a) i) = τ at eO eT eS eW hn ⊢
      refine g_iload h dX3_foretell_7 rfl ?_
      refine g_aload_n h dX3_foretell_9 rfl ?_
      refine gf3_32 h (by omega) dX3_foretell_10 ?_
      refine g_icge h 123 dX3_foretell_13 (by decide) (fun c13 => absurd c13 (by rw [hn]; exact nI_ge hlt (by omega))) (fun c13 => ?_)
      refine g_aload_n h dX3_foretell_16 rfl ?_
      refine gf3_11 h (by omega) dX3_foretell_17 ?_
      refine g_iload h dX3_foretell_20 rfl ?_
      refine g_aaldO h (by omega) rfl (by omega) dX3_foretell_22 ?_
      refine g_astore h dX3_foretell_23 (by rw [hL]; decide) ?_
      refine g_aload h dX3_foretell_25 rfl ?_
      refine g_aload h dX3_foretell_27 rfl ?_
      refine g_aload_n h dX3_foretell_29 rfl ?_
      refine gf3_25 h (by omega) dX3_foretell_30 ?_
      refine g_iconst (v := 0) h dX3_foretell_33 (by decide) ?_
      refine g_ialdSet h (by omega) nI_0.symm (by decide) dX3_foretell_34 ?_
      refine g_iload_n h dX3_foretell_35 rfl ?_
      refine g_aload_n h dX3_foretell_36 rfl ?_
      refine gf3_55 h (by omega) dX3_foretell_37 ?_
      refine cl3_97 h (by omega) (by omega) (ct_X1_stakeNow hs (by omega) (by rw [eO]; exact hgi)) rfl dX3_foretell_40 rfl (Nat.le_of_ble_eq_true rfl) (by decide) ?_
      refine gp3_101 h (by omega) (by omega) dX3_foretell_43 ?_
      refine g_aload h dX3_foretell_46 rfl ?_
      refine gf3_104 h (by omega) (by omega) dX3_foretell_48 ?_
      refine g_iconst (v := 4) h dX3_foretell_51 (by decide) ?_
      refine g_icne h 58 dX3_foretell_52 (by decide) (fun c52 => ?_) (fun c52 => ?_)
      · simp +decide only [pu_puR, puR_puR, puR_self, puR_id, upd_s, upd_n, puR_ne _ (iO_S s i s (by omega)).symm, puR_ne _ (iO_T s i s i).symm, puR_ne _ (iO_Set s i s (by omega)).symm, oWord_u10, oIn_u10] at c52
        refine g_aload h dX3_foretell_58 rfl ?_
        refine g_aload h dX3_foretell_60 rfl ?_
        refine g_iload_n h dX3_foretell_62 rfl ?_
        refine g_aload_n h dX3_foretell_63 rfl ?_
        refine gf3_55 h (by omega) dX3_foretell_64 ?_
        refine cl3_107 h (by omega) (by omega) (ct_X1_wordOfItsOwn hs (by omega) (by rw [pu_puR, puR_self, eO]; exact oGood_u10 _ hgi)) rfl dX3_foretell_67 rfl (Nat.le_of_ble_eq_true rfl) (by decide) ?_
        refine gp3_111 h (by omega) (by omega) dX3_foretell_70 ?_
        refine g_aload h dX3_foretell_73 rfl ?_
        refine cl3_114 h (by omega) (by omega) (ct_X1_takesPart (by omega) (by omega)) rfl dX3_foretell_75 rfl (Nat.le_of_ble_eq_true rfl) (by decide) ?_
        refine g_ifeqB h 101 dX3_foretell_78 (by decide) (fun c78 => ?_) (fun c78 => ?_)
        · simp +decide only [pu_puR, puR_puR, puR_self, puR_id, upd_s, upd_n, puR_ne _ (iO_S s i s (by omega)).symm, puR_ne _ (iO_T s i s i).symm, puR_ne _ (iO_Set s i s (by omega)).symm, oWord_u10, oIn_u10] at c78
          refine g_aload h dX3_foretell_101 rfl ?_
          refine cl3_114 h (by omega) (by omega) (ct_X1_takesPart (by omega) (by omega)) rfl dX3_foretell_103 rfl (Nat.le_of_ble_eq_true rfl) (by decide) ?_
          refine g_ifeqB h 117 dX3_foretell_106 (by decide) (fun c106 => ?_) (fun c106 => ?_)
          · simp +decide only [pu_puR, puR_puR, puR_self, puR_id, upd_s, upd_n, puR_ne _ (iO_S s i s (by omega)).symm, puR_ne _ (iO_T s i s i).symm, puR_ne _ (iO_Set s i s (by omega)).symm, oWord_u10, oIn_u10] at c106
            refine g_iincN h dX3_foretell_117 rfl (by rw [hL]; decide) ?_
            refine g_goto h 7 dX3_foretell_120 (by decide) ?_
            refine g_mem (setF σ (iO s) (foR1 σ s a) (i + 1)) (by show _ = puR (setF σ (iO s) (foR1 σ s a) i) (iO s i) (foR1 σ s a i); rw [hτ]; simp only [foR1, foSt, foW, ← eO, ← eT, ← eS, ← eW]; first | (simp [pu_puR, puR_puR, puR_self, puR_id, upd_s, upd_n, puR_ne _ (iO_S s i s (by omega)).symm, puR_ne _ (iO_T s i s i).symm, puR_ne _ (iO_Set s i s (by omega)).symm, oWord_u10, oIn_u10, c13, c52, c78, c106]; done) | (simp_all; done)) ?_
            refine g_sub [(0, ra X (iS s)), (1, .int a), (2, .int (foC1 σ s a (i + 1))), (3, .int (foC0 σ s a (i + 1))), (4, .int (nI (i + 1)))] ⟨rfl, rfl, (congrArg (fun z => some (Value.int z)) (by show _ = foC1 σ s a i + (if _ then _ else _); simp only [foW, ← eO, ← eT, ← eS]; first | (simp [pu_puR, puR_puR, puR_self, puR_id, upd_s, upd_n, puR_ne _ (iO_S s i s (by omega)).symm, puR_ne _ (iO_T s i s i).symm, puR_ne _ (iO_Set s i s (by omega)).symm, oWord_u10, oIn_u10, c13, c52, c78, c106]; done) | (simp_all; done))), (congrArg (fun z => some (Value.int z)) (by show _ = foC0 σ s a i + (if _ then _ else _); simp only [foW, ← eO, ← eT, ← eS]; first | (simp [pu_puR, puR_puR, puR_self, puR_id, upd_s, upd_n, puR_ne _ (iO_S s i s (by omega)).symm, puR_ne _ (iO_T s i s i).symm, puR_ne _ (iO_Set s i s (by omega)).symm, oWord_u10, oIn_u10, c13, c52, c78, c106]; done) | (simp_all; done))), rfl, trivial⟩ ?_
            exact ih (i + 1) (by omega)
          · simp +decide only [pu_puR, puR_puR, puR_self, puR_id, upd_s, upd_n, puR_ne _ (iO_S s i s (by omega)).symm, puR_ne _ (iO_T s i s i).symm, puR_ne _ (iO_Set s i s (by omega)).symm, oWord_u10, oIn_u10] at c106
            refine g_iload_n h dX3_foretell_109 rfl ?_
            refine g_aload h dX3_foretell_110 rfl ?_
            refine gf3_85 h (by omega) (by omega) dX3_foretell_112 ?_
            refine g_iadd h dX3_foretell_115 ?_
            refine g_istore_n h dX3_foretell_116 (by rw [hL]; decide) ?_
            refine g_iincN h dX3_foretell_117 rfl (by rw [hL]; decide) ?_
            refine g_goto h 7 dX3_foretell_120 (by decide) ?_
            refine g_mem (setF σ (iO s) (foR1 σ s a) (i + 1)) (by show _ = puR (setF σ (iO s) (foR1 σ s a) i) (iO s i) (foR1 σ s a i); rw [hτ]; simp only [foR1, foSt, foW, ← eO, ← eT, ← eS, ← eW]; first | (simp [pu_puR, puR_puR, puR_self, puR_id, upd_s, upd_n, puR_ne _ (iO_S s i s (by omega)).symm, puR_ne _ (iO_T s i s i).symm, puR_ne _ (iO_Set s i s (by omega)).symm, oWord_u10, oIn_u10, c13, c52, c78, c106]; done) | (simp_all; done)) ?_
            refine g_sub [(0, ra X (iS s)), (1, .int a), (2, .int (foC1 σ s a (i + 1))), (3, .int (foC0 σ s a (i + 1))), (4, .int (nI (i + 1)))] ⟨rfl, rfl, (congrArg (fun z => some (Value.int z)) (by show _ = foC1 σ s a i + (if _ then _ else _); simp only [foW, ← eO, ← eT, ← eS]; first | (simp [pu_puR, puR_puR, puR_self, puR_id, upd_s, upd_n, puR_ne _ (iO_S s i s (by omega)).symm, puR_ne _ (iO_T s i s i).symm, puR_ne _ (iO_Set s i s (by omega)).symm, oWord_u10, oIn_u10, c13, c52, c78, c106]; done) | (simp_all; done))), (congrArg (fun z => some (Value.int z)) (by show _ = foC0 σ s a i + (if _ then _ else _); simp only [foW, ← eO, ← eT, ← eS]; first | (simp [pu_puR, puR_puR, puR_self, puR_id, upd_s, upd_n, puR_ne _ (iO_S s i s (by omega)).symm, puR_ne _ (iO_T s i s i).symm, puR_ne _ (iO_Set s i s (by omega)).symm, oWord_u10, oIn_u10, c13, c52, c78, c106]; done) | (simp_all; done))), rfl, trivial⟩ ?_
            exact ih (i + 1) (by omega)
        · simp +decide only [pu_puR, puR_puR, puR_self, puR_id, upd_s, upd_n, puR_ne _ (iO_S s i s (by omega)).symm, puR_ne _ (iO_T s i s i).symm, puR_ne _ (iO_Set s i s (by omega)).symm, oWord_u10, oIn_u10] at c78
          refine g_aload h dX3_foretell_81 rfl ?_
          refine gf3_111 h (by omega) (by omega) dX3_foretell_83 ?_
          refine g_iconst (v := 1) h dX3_foretell_86 (by decide) ?_
          refine g_icne h 101 dX3_foretell_87 (by decide) (fun c87 => ?_) (fun c87 => ?_)
          · simp +decide only [pu_puR, puR_puR, puR_self, puR_id, upd_s, upd_n, puR_ne _ (iO_S s i s (by omega)).symm, puR_ne _ (iO_T s i s i).symm, puR_ne _ (iO_Set s i s (by omega)).symm, oWord_u10, oIn_u10] at c87
            refine g_aload h dX3_foretell_101 rfl ?_
            refine cl3_114 h (by omega) (by omega) (ct_X1_takesPart (by omega) (by omega)) rfl dX3_foretell_103 rfl (Nat.le_of_ble_eq_true rfl) (by decide) ?_
            refine g_ifeqB h 117 dX3_foretell_106 (by decide) (fun c106 => ?_) (fun c106 => ?_)
            · simp +decide only [pu_puR, puR_puR, puR_self, puR_id, upd_s, upd_n, puR_ne _ (iO_S s i s (by omega)).symm, puR_ne _ (iO_T s i s i).symm, puR_ne _ (iO_Set s i s (by omega)).symm, oWord_u10, oIn_u10] at c106
              refine g_iincN h dX3_foretell_117 rfl (by rw [hL]; decide) ?_
              refine g_goto h 7 dX3_foretell_120 (by decide) ?_
              refine g_mem (setF σ (iO s) (foR1 σ s a) (i + 1)) (by show _ = puR (setF σ (iO s) (foR1 σ s a) i) (iO s i) (foR1 σ s a i); rw [hτ]; simp only [foR1, foSt, foW, ← eO, ← eT, ← eS, ← eW]; first | (simp [pu_puR, puR_puR, puR_self, puR_id, upd_s, upd_n, puR_ne _ (iO_S s i s (by omega)).symm, puR_ne _ (iO_T s i s i).symm, puR_ne _ (iO_Set s i s (by omega)).symm, oWord_u10, oIn_u10, c13, c52, c78, c87, c106]; done) | (simp_all; done)) ?_
              refine g_sub [(0, ra X (iS s)), (1, .int a), (2, .int (foC1 σ s a (i + 1))), (3, .int (foC0 σ s a (i + 1))), (4, .int (nI (i + 1)))] ⟨rfl, rfl, (congrArg (fun z => some (Value.int z)) (by show _ = foC1 σ s a i + (if _ then _ else _); simp only [foW, ← eO, ← eT, ← eS]; first | (simp [pu_puR, puR_puR, puR_self, puR_id, upd_s, upd_n, puR_ne _ (iO_S s i s (by omega)).symm, puR_ne _ (iO_T s i s i).symm, puR_ne _ (iO_Set s i s (by omega)).symm, oWord_u10, oIn_u10, c13, c52, c78, c87, c106]; done) | (simp_all; done))), (congrArg (fun z => some (Value.int z)) (by show _ = foC0 σ s a i + (if _ then _ else _); simp only [foW, ← eO, ← eT, ← eS]; first | (simp [pu_puR, puR_puR, puR_self, puR_id, upd_s, upd_n, puR_ne _ (iO_S s i s (by omega)).symm, puR_ne _ (iO_T s i s i).symm, puR_ne _ (iO_Set s i s (by omega)).symm, oWord_u10, oIn_u10, c13, c52, c78, c87, c106]; done) | (simp_all; done))), rfl, trivial⟩ ?_
              exact ih (i + 1) (by omega)
            · simp +decide only [pu_puR, puR_puR, puR_self, puR_id, upd_s, upd_n, puR_ne _ (iO_S s i s (by omega)).symm, puR_ne _ (iO_T s i s i).symm, puR_ne _ (iO_Set s i s (by omega)).symm, oWord_u10, oIn_u10] at c106
              refine g_iload_n h dX3_foretell_109 rfl ?_
              refine g_aload h dX3_foretell_110 rfl ?_
              refine gf3_85 h (by omega) (by omega) dX3_foretell_112 ?_
              refine g_iadd h dX3_foretell_115 ?_
              refine g_istore_n h dX3_foretell_116 (by rw [hL]; decide) ?_
              refine g_iincN h dX3_foretell_117 rfl (by rw [hL]; decide) ?_
              refine g_goto h 7 dX3_foretell_120 (by decide) ?_
              refine g_mem (setF σ (iO s) (foR1 σ s a) (i + 1)) (by show _ = puR (setF σ (iO s) (foR1 σ s a) i) (iO s i) (foR1 σ s a i); rw [hτ]; simp only [foR1, foSt, foW, ← eO, ← eT, ← eS, ← eW]; first | (simp [pu_puR, puR_puR, puR_self, puR_id, upd_s, upd_n, puR_ne _ (iO_S s i s (by omega)).symm, puR_ne _ (iO_T s i s i).symm, puR_ne _ (iO_Set s i s (by omega)).symm, oWord_u10, oIn_u10, c13, c52, c78, c87, c106]; done) | (simp_all; done)) ?_
              refine g_sub [(0, ra X (iS s)), (1, .int a), (2, .int (foC1 σ s a (i + 1))), (3, .int (foC0 σ s a (i + 1))), (4, .int (nI (i + 1)))] ⟨rfl, rfl, (congrArg (fun z => some (Value.int z)) (by show _ = foC1 σ s a i + (if _ then _ else _); simp only [foW, ← eO, ← eT, ← eS]; first | (simp [pu_puR, puR_puR, puR_self, puR_id, upd_s, upd_n, puR_ne _ (iO_S s i s (by omega)).symm, puR_ne _ (iO_T s i s i).symm, puR_ne _ (iO_Set s i s (by omega)).symm, oWord_u10, oIn_u10, c13, c52, c78, c87, c106]; done) | (simp_all; done))), (congrArg (fun z => some (Value.int z)) (by show _ = foC0 σ s a i + (if _ then _ else _); simp only [foW, ← eO, ← eT, ← eS]; first | (simp [pu_puR, puR_puR, puR_self, puR_id, upd_s, upd_n, puR_ne _ (iO_S s i s (by omega)).symm, puR_ne _ (iO_T s i s i).symm, puR_ne _ (iO_Set s i s (by omega)).symm, oWord_u10, oIn_u10, c13, c52, c78, c87, c106]; done) | (simp_all; done))), rfl, trivial⟩ ?_
              exact ih (i + 1) (by omega)
          · simp +decide only [pu_puR, puR_puR, puR_self, puR_id, upd_s, upd_n, puR_ne _ (iO_S s i s (by omega)).symm, puR_ne _ (iO_T s i s i).symm, puR_ne _ (iO_Set s i s (by omega)).symm, oWord_u10, oIn_u10] at c87
            refine g_iload_n h dX3_foretell_90 rfl ?_
            refine g_aload h dX3_foretell_91 rfl ?_
            refine gf3_85 h (by omega) (by omega) dX3_foretell_93 ?_
            refine g_iadd h dX3_foretell_96 ?_
            refine g_istore_n h dX3_foretell_97 (by rw [hL]; decide) ?_
            refine g_goto h 117 dX3_foretell_98 (by decide) ?_
            refine g_iincN h dX3_foretell_117 rfl (by rw [hL]; decide) ?_
            refine g_goto h 7 dX3_foretell_120 (by decide) ?_
            refine g_mem (setF σ (iO s) (foR1 σ s a) (i + 1)) (by show _ = puR (setF σ (iO s) (foR1 σ s a) i) (iO s i) (foR1 σ s a i); rw [hτ]; simp only [foR1, foSt, foW, ← eO, ← eT, ← eS, ← eW]; first | (simp [pu_puR, puR_puR, puR_self, puR_id, upd_s, upd_n, puR_ne _ (iO_S s i s (by omega)).symm, puR_ne _ (iO_T s i s i).symm, puR_ne _ (iO_Set s i s (by omega)).symm, oWord_u10, oIn_u10, c13, c52, c78, c87]; done) | (simp_all; done)) ?_
            refine g_sub [(0, ra X (iS s)), (1, .int a), (2, .int (foC1 σ s a (i + 1))), (3, .int (foC0 σ s a (i + 1))), (4, .int (nI (i + 1)))] ⟨rfl, rfl, (congrArg (fun z => some (Value.int z)) (by show _ = foC1 σ s a i + (if _ then _ else _); simp only [foW, ← eO, ← eT, ← eS]; first | (simp [pu_puR, puR_puR, puR_self, puR_id, upd_s, upd_n, puR_ne _ (iO_S s i s (by omega)).symm, puR_ne _ (iO_T s i s i).symm, puR_ne _ (iO_Set s i s (by omega)).symm, oWord_u10, oIn_u10, c13, c52, c78, c87]; done) | (simp_all; done))), (congrArg (fun z => some (Value.int z)) (by show _ = foC0 σ s a i + (if _ then _ else _); simp only [foW, ← eO, ← eT, ← eS]; first | (simp [pu_puR, puR_puR, puR_self, puR_id, upd_s, upd_n, puR_ne _ (iO_S s i s (by omega)).symm, puR_ne _ (iO_T s i s i).symm, puR_ne _ (iO_Set s i s (by omega)).symm, oWord_u10, oIn_u10, c13, c52, c78, c87]; done) | (simp_all; done))), rfl, trivial⟩ ?_
            exact ih (i + 1) (by omega)
      · simp +decide only [pu_puR, puR_puR, puR_self, puR_id, upd_s, upd_n, puR_ne _ (iO_S s i s (by omega)).symm, puR_ne _ (iO_T s i s i).symm, puR_ne _ (iO_Set s i s (by omega)).symm, oWord_u10, oIn_u10] at c52
        refine g_goto h 117 dX3_foretell_55 (by decide) ?_
        refine g_iincN h dX3_foretell_117 rfl (by rw [hL]; decide) ?_
        refine g_goto h 7 dX3_foretell_120 (by decide) ?_
        refine g_mem (setF σ (iO s) (foR1 σ s a) (i + 1)) (by show _ = puR (setF σ (iO s) (foR1 σ s a) i) (iO s i) (foR1 σ s a i); rw [hτ]; simp only [foR1, foSt, foW, ← eO, ← eT, ← eS, ← eW]; first | (simp [pu_puR, puR_puR, puR_self, puR_id, upd_s, upd_n, puR_ne _ (iO_S s i s (by omega)).symm, puR_ne _ (iO_T s i s i).symm, puR_ne _ (iO_Set s i s (by omega)).symm, oWord_u10, oIn_u10, c13, c52]; done) | (simp_all; done)) ?_
        refine g_sub [(0, ra X (iS s)), (1, .int a), (2, .int (foC1 σ s a (i + 1))), (3, .int (foC0 σ s a (i + 1))), (4, .int (nI (i + 1)))] ⟨rfl, rfl, (congrArg (fun z => some (Value.int z)) (by show _ = foC1 σ s a i + (if _ then _ else _); simp only [foW, ← eO, ← eT, ← eS]; first | (simp [pu_puR, puR_puR, puR_self, puR_id, upd_s, upd_n, puR_ne _ (iO_S s i s (by omega)).symm, puR_ne _ (iO_T s i s i).symm, puR_ne _ (iO_Set s i s (by omega)).symm, oWord_u10, oIn_u10, c13, c52]; done) | (simp_all; done))), (congrArg (fun z => some (Value.int z)) (by show _ = foC0 σ s a i + (if _ then _ else _); simp only [foW, ← eO, ← eT, ← eS]; first | (simp [pu_puR, puR_puR, puR_self, puR_id, upd_s, upd_n, puR_ne _ (iO_S s i s (by omega)).symm, puR_ne _ (iO_T s i s i).symm, puR_ne _ (iO_Set s i s (by omega)).symm, oWord_u10, oIn_u10, c13, c52]; done) | (simp_all; done))), rfl, trivial⟩ ?_
        exact ih (i + 1) (by omega)
  refine g_iconst (v := 0) h dX3_foretell_0 (by decide) ?_
  refine g_istore_n h dX3_foretell_1 (by rw [hL]; decide) ?_
  refine g_iconst (v := 0) h dX3_foretell_2 (by decide) ?_
  refine g_istore_n h dX3_foretell_3 (by rw [hL]; decide) ?_
  refine g_iconst (v := 0) h dX3_foretell_4 (by decide) ?_
  refine g_istore h dX3_foretell_5 (by rw [hL]; decide) ?_
  refine g_sub [(0, ra X (iS s)), (1, .int a), (2, .int (foC1 σ s a 0)), (3, .int (foC0 σ s a 0)), (4, .int (nI 0))] ⟨rfl, rfl, rfl, rfl, lk_0, trivial⟩ ?_
  exact LOOP1 n 0 (by omega)

def kept (σ : fM) (s : Nat) (k : Int32) (i : Nat) : Nat → Int32 := if σ.1 (iO s i) 10 ≤ 0 then σ.1 (iO s i) else oNote (σ.1 (iO s i)) (if σ.1 (iO s i) 9 = k then 1 else 0)

set_option maxRecDepth 100000 in
set_option maxHeartbeats 4000000 in
theorem ct_X3_keepRecords {l : Launch} {X : fX} {σ : fM} {s n m : Nat} (hs : s < 6) (hc : cnt σ s n m) {k : Int32} : Ct l X yX3_keepRecords cX3_keepRecords 3 none 2 [ra X (iS s), .int k] σ none (setF σ (iO s) (kept σ s k) n) := by
  refine Ct.of RX3 rfl (by decide) (Nat.le_of_ble_eq_true rfl) ?_
  intro x hL h hr
  refine g_sub [(0, ra X (iS s)), (1, .int k)] ⟨rfl, rfl, trivial⟩ ?_
  obtain ⟨hn, hm, hn6, hm8⟩ := id hc
  have LOOP : ∀ (q i : Nat), i + q = n → G x X (setF σ (iO s) (kept σ s k) i) [(0, ra X (iS s)), (1, .int k), (2, .int (nI i))] [] 2 := by
    intro q
    induction q with
    | zero =>
      intro i hi 
      have hie : i = n := by omega
      rw [hie]
      have hn : (setF σ (iO s) (kept σ s k) n).1 (iS s) 3 = nI n := by rw [show (setF σ (iO s) (kept σ s k) n).1 (iS s) = σ.1 (iS s) from setF_ne (fun j hj => iO_S s j s (by omega))]; exact hn
      refine g_iload_n h dX3_keepRecords_2 rfl ?_
      refine g_aload_n h dX3_keepRecords_3 rfl ?_
      refine gf3_32 h (by omega) dX3_keepRecords_4 ?_
      refine g_icge h 55 dX3_keepRecords_7 (by decide) (fun c7 => ?_) (fun c7 => absurd (by rw [hn]; exact Int32.le_refl _) c7)
      exact g_vret h hr dX3_keepRecords_55 rfl
    | succ q ih =>
      intro i hi 
      have hlt : i < n := by omega
      have eO : (setF σ (iO s) (kept σ s k) i).1 (iO s i) = σ.1 (iO s i) := setF_off (iO_inj s) (Nat.le_refl i)
      have hn : (setF σ (iO s) (kept σ s k) i).1 (iS s) 3 = nI n := by rw [show (setF σ (iO s) (kept σ s k) i).1 (iS s) = σ.1 (iS s) from setF_ne (fun j hj => iO_S s j s (by omega))]; exact hn
      generalize hτ : (setF σ (iO s) (kept σ s k) i) = τ at eO hn ⊢
      refine g_iload_n h dX3_keepRecords_2 rfl ?_
      refine g_aload_n h dX3_keepRecords_3 rfl ?_
      refine gf3_32 h (by omega) dX3_keepRecords_4 ?_
      refine g_icge h 55 dX3_keepRecords_7 (by decide) (fun c7 => absurd c7 (by rw [hn]; exact nI_ge hlt (by omega))) (fun c7 => ?_)
      refine g_aload_n h dX3_keepRecords_10 rfl ?_
      refine gf3_11 h (by omega) dX3_keepRecords_11 ?_
      refine g_iload_n h dX3_keepRecords_14 rfl ?_
      refine g_aaldO h (by omega) rfl (by omega) dX3_keepRecords_15 ?_
      refine gf3_101 h (by omega) (by omega) dX3_keepRecords_16 ?_
      refine g_ifle h 49 dX3_keepRecords_19 (by decide) (fun c19 => ?_) (fun c19 => ?_)
      · refine g_iincN h dX3_keepRecords_49 rfl (by rw [hL]; decide) ?_
        refine g_goto h 2 dX3_keepRecords_52 (by decide) ?_
        refine g_mem (setF σ (iO s) (kept σ s k) (i + 1)) (by show _ = puR (setF σ (iO s) (kept σ s k) i) (iO s i) (kept σ s k i); rw [hτ]; simp only [kept, ← eO]; simp [pu_puR, puR_puR, puR_self, puR_id, c7, c19]) ?_
        refine g_sub [(0, ra X (iS s)), (1, .int k), (2, .int (nI (i + 1)))] ⟨rfl, rfl, rfl, trivial⟩ ?_
        exact ih (i + 1) (by omega)
      · refine g_aload_n h dX3_keepRecords_22 rfl ?_
        refine gf3_11 h (by omega) dX3_keepRecords_23 ?_
        refine g_iload_n h dX3_keepRecords_26 rfl ?_
        refine g_aaldO h (by omega) rfl (by omega) dX3_keepRecords_27 ?_
        refine g_aload_n h dX3_keepRecords_28 rfl ?_
        refine gf3_11 h (by omega) dX3_keepRecords_29 ?_
        refine g_iload_n h dX3_keepRecords_32 rfl ?_
        refine g_aaldO h (by omega) rfl (by omega) dX3_keepRecords_33 ?_
        refine gf3_111 h (by omega) (by omega) dX3_keepRecords_34 ?_
        refine g_iload_n h dX3_keepRecords_37 rfl ?_
        refine g_icne h 45 dX3_keepRecords_38 (by decide) (fun c38 => ?_) (fun c38 => ?_)
        · refine g_iconst (v := 0) h dX3_keepRecords_45 (by decide) ?_
          refine cl3_146 h (by omega) (by omega) (ct_X1_note (by omega) (by omega)) rfl dX3_keepRecords_46 rfl (Nat.le_of_ble_eq_true rfl) (by decide) ?_
          refine g_iincN h dX3_keepRecords_49 rfl (by rw [hL]; decide) ?_
          refine g_goto h 2 dX3_keepRecords_52 (by decide) ?_
          refine g_mem (setF σ (iO s) (kept σ s k) (i + 1)) (by show _ = puR (setF σ (iO s) (kept σ s k) i) (iO s i) (kept σ s k i); rw [hτ]; simp only [kept, ← eO]; simp [pu_puR, puR_puR, puR_self, puR_id, c7, c19, c38]) ?_
          refine g_sub [(0, ra X (iS s)), (1, .int k), (2, .int (nI (i + 1)))] ⟨rfl, rfl, rfl, trivial⟩ ?_
          exact ih (i + 1) (by omega)
        · refine g_iconst (v := 1) h dX3_keepRecords_41 (by decide) ?_
          refine g_goto h 46 dX3_keepRecords_42 (by decide) ?_
          refine cl3_146 h (by omega) (by omega) (ct_X1_note (by omega) (by omega)) rfl dX3_keepRecords_46 rfl (Nat.le_of_ble_eq_true rfl) (by decide) ?_
          refine g_iincN h dX3_keepRecords_49 rfl (by rw [hL]; decide) ?_
          refine g_goto h 2 dX3_keepRecords_52 (by decide) ?_
          refine g_mem (setF σ (iO s) (kept σ s k) (i + 1)) (by show _ = puR (setF σ (iO s) (kept σ s k) i) (iO s i) (kept σ s k i); rw [hτ]; simp only [kept, ← eO]; simp [pu_puR, puR_puR, puR_self, puR_id, c7, c19, c38]) ?_
          refine g_sub [(0, ra X (iS s)), (1, .int k), (2, .int (nI (i + 1)))] ⟨rfl, rfl, rfl, trivial⟩ ?_
          exact ih (i + 1) (by omega)
  refine g_iconst (v := 0) h dX3_keepRecords_0 (by decide) ?_
  refine g_istore_n h dX3_keepRecords_1 (by rw [hL]; decide) ?_
  refine g_sub [(0, ra X (iS s)), (1, .int k), (2, .int (nI 0))] ⟨rfl, rfl, lk_0, trivial⟩ ?_
  exact LOOP n 0 (by omega)

def lrn (σ : fM) (s : Nat) (a k : Int32) (i : Nat) : Nat → Int32 := if oTab (σ.1 (iO s i)) = true then upd (σ.1 (iT s i)) (oSlot (σ.1 (iO s i)) a (σ.1 (iS s) 6)).toNatClampNeg (oLrn (σ.1 (iT s i) (oSlot (σ.1 (iO s i)) a (σ.1 (iS s) 6)).toNatClampNeg) k) else σ.1 (iT s i)
def lrnS (f : Nat → Int32) (k : Int32) : Nat → Int32 := upd (upd f 6 ((2 * f 6 + k) &&& 255)) 7 (f 7 + 1)
def learnM (σ : fM) (s n : Nat) (a k : Int32) : fM := puL (puR (setF σ (iT s) (lrn σ s a k) n) (iS s) (lrnS (σ.1 (iS s)) k)) (iS s) (σ.2 (iS s) ||| ((1 : Int64) <<< (a.toInt64 &&& 63)))

set_option maxRecDepth 100000 in
set_option maxHeartbeats 4000000 in
theorem ct_X3_learnFrom {l : Launch} {X : fX} {σ : fM} {s n m : Nat} (hs : s < 6) (hc : cnt σ s n m) {a k : Int32} (hg : ∀ i, i < n → oGood (σ.1 (iO s i))) : Ct l X yX3_learnFrom cX3_learnFrom 4 none 3 [ra X (iS s), .int a, .int k] σ none (learnM σ s n a k) := by
  refine Ct.of RX3 rfl (by decide) (Nat.le_of_ble_eq_true rfl) ?_
  intro x hL h hr
  refine g_sub [(0, ra X (iS s)), (1, .int a), (2, .int k)] ⟨rfl, rfl, rfl, trivial⟩ ?_
  obtain ⟨hn, hm, hn6, hm8⟩ := id hc
  have LOOP : ∀ (q i : Nat), i + q = n → G x X (setF σ (iT s) (lrn σ s a k) i) [(0, ra X (iS s)), (1, .int a), (2, .int k), (3, .int (nI i))] [] 2 := by
    intro q
    induction q with
    | zero =>
      intro i hi 
      have hie : i = n := by omega
      rw [hie]
      have eS : (setF σ (iT s) (lrn σ s a k) n).1 (iS s) = σ.1 (iS s) := setF_ne (fun j hj => iT_S s j s (by omega))
      have hn : (setF σ (iT s) (lrn σ s a k) n).1 (iS s) 3 = nI n := by rw [eS]; exact hn
      refine g_iload_n h dX3_learnFrom_2 rfl ?_
      refine g_aload_n h dX3_learnFrom_3 rfl ?_
      refine gf3_32 h (by omega) dX3_learnFrom_4 ?_
      refine g_icge h 43 dX3_learnFrom_7 (by decide) (fun c7 => ?_) (fun c7 => absurd (by rw [hn]; exact Int32.le_refl _) c7)
      refine g_aload_n h dX3_learnFrom_43 rfl ?_
      refine g_iconst (v := 2) h dX3_learnFrom_44 (by decide) ?_
      refine g_aload_n h dX3_learnFrom_45 rfl ?_
      refine gf3_55 h (by omega) dX3_learnFrom_46 ?_
      refine g_imul h dX3_learnFrom_49 ?_
      refine g_iload_n h dX3_learnFrom_50 rfl ?_
      refine g_iadd h dX3_learnFrom_51 ?_
      refine g_sipush (v := 255) h dX3_learnFrom_52 (by decide) ?_
      refine g_iand h dX3_learnFrom_55 ?_
      refine gp3_55 h (by omega) dX3_learnFrom_56 ?_
      refine g_aload_n h dX3_learnFrom_59 rfl ?_
      refine g_dup h dX3_learnFrom_60 rfl ?_
      refine gf3_58 h (by omega) dX3_learnFrom_61 ?_
      refine g_iconst (v := 1) h dX3_learnFrom_64 (by decide) ?_
      refine g_iadd h dX3_learnFrom_65 ?_
      refine gp3_58 h (by omega) dX3_learnFrom_66 ?_
      refine g_aload_n h dX3_learnFrom_69 rfl ?_
      refine g_dup h dX3_learnFrom_70 rfl ?_
      refine gf3_64 h (by omega) dX3_learnFrom_71 ?_
      refine g_lconst (v := 1) h dX3_learnFrom_74 (by decide) ?_
      refine g_iload_n h dX3_learnFrom_75 rfl ?_
      refine g_lshl h dX3_learnFrom_76 ?_
      refine g_lor h dX3_learnFrom_77 ?_
      refine gp3_64 h (by omega) dX3_learnFrom_78 ?_
      exact g_vret h hr dX3_learnFrom_81 (by unfold learnM lrnS; rw [show σ.2 = ((setF σ (iT s) (lrn σ s a k) n)).2 from (setF_2 _ _ _ _).symm, ← eS]; simp only [pu_puR, puR_puR, puR_self, upd_n _ _ _ _ (show ¬ (7 : Nat) = 6 by decide)]; rfl)
    | succ q ih =>
      intro i hi 
      have hlt : i < n := by omega
      have eO : (setF σ (iT s) (lrn σ s a k) i).1 (iO s i) = σ.1 (iO s i) := setF_ne (fun j hj => (iO_T s i s j).symm)
      have eT : (setF σ (iT s) (lrn σ s a k) i).1 (iT s i) = σ.1 (iT s i) := setF_off (iT_inj s) (Nat.le_refl i)
      have eS : (setF σ (iT s) (lrn σ s a k) i).1 (iS s) = σ.1 (iS s) := setF_ne (fun j hj => iT_S s j s (by omega))
      have hn : (setF σ (iT s) (lrn σ s a k) i).1 (iS s) 3 = nI n := by rw [eS]; exact hn
      have hgi : oGood (σ.1 (iO s i)) := hg i (by omega)
      generalize hτ : (setF σ (iT s) (lrn σ s a k) i) = τ at eO eT eS hn ⊢
      refine g_iload_n h dX3_learnFrom_2 rfl ?_
      refine g_aload_n h dX3_learnFrom_3 rfl ?_
      refine gf3_32 h (by omega) dX3_learnFrom_4 ?_
      refine g_icge h 43 dX3_learnFrom_7 (by decide) (fun c7 => absurd c7 (by rw [hn]; exact nI_ge hlt (by omega))) (fun c7 => ?_)
      refine g_aload_n h dX3_learnFrom_10 rfl ?_
      refine gf3_11 h (by omega) dX3_learnFrom_11 ?_
      refine g_iload_n h dX3_learnFrom_14 rfl ?_
      refine g_aaldO h (by omega) rfl (by omega) dX3_learnFrom_15 ?_
      refine cl3_150 h (by omega) (by omega) (ct_X1_hasTable (by omega) (by omega)) rfl dX3_learnFrom_16 rfl (Nat.le_of_ble_eq_true rfl) (by decide) ?_
      refine g_ifeqB h 37 dX3_learnFrom_19 (by decide) (fun c19 => ?_) (fun c19 => ?_)
      · refine g_iincN h dX3_learnFrom_37 rfl (by rw [hL]; decide) ?_
        refine g_goto h 2 dX3_learnFrom_40 (by decide) ?_
        refine g_mem (setF σ (iT s) (lrn σ s a k) (i + 1)) (by show _ = puR (setF σ (iT s) (lrn σ s a k) i) (iT s i) (lrn σ s a k i); rw [hτ]; simp only [lrn, ← eO, ← eT, ← eS]; simp [pu_puR, puR_puR, puR_self, puR_id, c7, c19]) ?_
        refine g_sub [(0, ra X (iS s)), (1, .int a), (2, .int k), (3, .int (nI (i + 1)))] ⟨rfl, rfl, rfl, rfl, trivial⟩ ?_
        exact ih (i + 1) (by omega)
      · refine g_aload_n h dX3_learnFrom_22 rfl ?_
        refine gf3_11 h (by omega) dX3_learnFrom_23 ?_
        refine g_iload_n h dX3_learnFrom_26 rfl ?_
        refine g_aaldO h (by omega) rfl (by omega) dX3_learnFrom_27 ?_
        refine g_iload_n h dX3_learnFrom_28 rfl ?_
        refine g_iload_n h dX3_learnFrom_29 rfl ?_
        refine g_aload_n h dX3_learnFrom_30 rfl ?_
        refine gf3_55 h (by omega) dX3_learnFrom_31 ?_
        refine cl3_153 h (by omega) (by omega) (ct_X1_learn hs (by omega) (by rw [eO]; exact hgi) c19) rfl dX3_learnFrom_34 rfl (Nat.le_of_ble_eq_true rfl) (by decide) ?_
        refine g_iincN h dX3_learnFrom_37 rfl (by rw [hL]; decide) ?_
        refine g_goto h 2 dX3_learnFrom_40 (by decide) ?_
        refine g_mem (setF σ (iT s) (lrn σ s a k) (i + 1)) (by show _ = puR (setF σ (iT s) (lrn σ s a k) i) (iT s i) (lrn σ s a k i); rw [hτ]; simp only [lrn, ← eO, ← eT, ← eS]; simp [pu_puR, puR_puR, puR_self, puR_id, c7, c19]) ?_
        refine g_sub [(0, ra X (iS s)), (1, .int a), (2, .int k), (3, .int (nI (i + 1)))] ⟨rfl, rfl, rfl, rfl, trivial⟩ ?_
        exact ih (i + 1) (by omega)
  refine g_iconst (v := 0) h dX3_learnFrom_0 (by decide) ?_
  refine g_istore_n h dX3_learnFrom_1 (by rw [hL]; decide) ?_
  refine g_sub [(0, ra X (iS s)), (1, .int a), (2, .int k), (3, .int (nI 0))] ⟨rfl, rfl, rfl, lk_0, trivial⟩ ?_
  exact LOOP n 0 (by omega)
end
section
/-! State: bets and loans -/
/-- all but purses and what is owed stays -/
def frm2 (s : Nat) (σ τ : fM) : Prop := τ.2 = σ.2 ∧ ∀ k j, (j = 2 → (∀ i, i < 6 → k ≠ iO s i) ∧ ∀ i, i < 8 → k ≠ iL s i) → τ.1 k j = σ.1 k j
theorem frm2.rf (s : Nat) (σ : fM) : frm2 s σ σ := ⟨rfl, fun _ _ _ => rfl⟩
theorem frm2.tr {s : Nat} {σ τ υ : fM} (h1 : frm2 s σ τ) (h2 : frm2 s τ υ) : frm2 s σ υ := ⟨h2.1.trans h1.1, fun k j h => (h2.2 k j h).trans (h1.2 k j h)⟩
theorem frm2.O {s i : Nat} (hi : i < 6) (σ : fM) (v : Int32) : frm2 s σ (pu σ (iO s i) 2 v) := ⟨rfl, fun k j h => by
  simp only [pu]
  rw [if_neg]
  rintro ⟨h1, h2⟩
  exact (h h2).1 i hi h1⟩
theorem frm2.L {s i : Nat} (hi : i < 8) (σ : fM) (v : Int32) : frm2 s σ (pu σ (iL s i) 2 v) := ⟨rfl, fun k j h => by
  simp only [pu]
  rw [if_neg]
  rintro ⟨h1, h2⟩
  exact (h h2).2 i hi h1⟩
theorem frm2.S {s : Nat} {σ τ : fM} (h : frm2 s σ τ) (s' j : Nat) : τ.1 (iS s') j = σ.1 (iS s') j := h.2 _ _ (fun _ => ⟨fun i hi => (iO_S s i s' hi).symm, fun l hl => (iL_S s l s' hl).symm⟩)
theorem frm2.Set {s : Nat} {σ τ : fM} (h : frm2 s σ τ) (s' j : Nat) : τ.1 (iSet s') j = σ.1 (iSet s') j := h.2 _ _ (fun _ => ⟨fun i hi => (iO_Set s i s' hi).symm, fun l hl => (iL_Set s l s' hl).symm⟩)
theorem frm2.n2 {s : Nat} {σ τ : fM} (h : frm2 s σ τ) (k j : Nat) (hj : j ≠ 2) : τ.1 k j = σ.1 k j := h.2 _ _ (fun e => absurd e hj)
theorem frm2.cnt {s n m : Nat} {σ τ : fM} (h : frm2 s σ τ) (hc : cnt σ s n m) : cnt τ s n m := ⟨by rw [h.S]; exact hc.1, by rw [h.S]; exact hc.2.1, hc.2.2⟩
/-- the creditors of all loans are oracles -/
def crd (σ : fM) (s m : Nat) : Prop := ∀ l, l < m → ∃ c : Nat, c < 6 ∧ σ.1 (iL s l) 0 = nI c
theorem frm2.crd {s m : Nat} {σ τ : fM} (h : frm2 s σ τ) (hc : crd σ s m) : crd τ s m := fun l hl => by rw [h.n2 _ _ (by decide)]; exact hc l hl
def payStep (s e l : Nat) (z : fM × Int32) : fM × Int32 :=
  if z.2 ≤ 0 then z else if ¬ z.1.1 (iL s l) 1 = nI e then z else
    let c := if z.1.1 (iL s l) 2 < z.2 then z.1.1 (iL s l) 2 else z.2
    let τ1 := pu z.1 (iL s l) 2 (z.1.1 (iL s l) 2 - c)
    let τ2 := pu τ1 (iO s e) 2 (τ1.1 (iO s e) 2 - c)
    let k := (z.1.1 (iL s l) 0).toNatClampNeg
    (pu τ2 (iO s k) 2 (τ2.1 (iO s k) 2 + c), z.2 - c)
def payF (s e : Nat) (z : fM × Int32) : Nat → fM × Int32
  | 0 => z
  | l + 1 => payStep s e l (payF s e z l)
theorem payStep_frm {s e l : Nat} (he : e < 6) (hl : l < 8) {z : fM × Int32} (hc : ∃ c : Nat, c < 6 ∧ z.1.1 (iL s l) 0 = nI c) : frm2 s z.1 (payStep s e l z).1 := by
  unfold payStep
  split
  · exact frm2.rf _ _
  · split
    · exact frm2.rf _ _
    · obtain ⟨c, hc6, hce⟩ := hc
      have hk : (z.1.1 (iL s l) 0).toNatClampNeg = c := by rw [hce]; exact nI_clamp (by omega)
      dsimp only
      rw [hk]
      exact ((frm2.L hl _ _).tr (frm2.O he _ _)).tr (frm2.O hc6 _ _)
theorem payF_frm {s e m : Nat} (he : e < 6) (hm : m ≤ 8) {z : fM × Int32} (hc : crd z.1 s m) : ∀ l, l ≤ m → frm2 s z.1 (payF s e z l).1
  | 0, _ => frm2.rf _ _
  | l + 1, h => by
    have ih := payF_frm he hm hc l (by omega)
    exact ih.tr (payStep_frm he (by omega) (ih.crd hc l (by omega)))
theorem payF_stop {s e : Nat} {z : fM × Int32} {l : Nat} (h : (payF s e z l).2 ≤ 0) : ∀ m, l ≤ m → payF s e z m = payF s e z l
  | 0, hm => by have : l = 0 := by omega
                rw [this]
  | m + 1, hm => by
    by_cases hl : l = m + 1
    · rw [hl]
    · have ih := payF_stop h m (by omega)
      show payStep s e m (payF s e z m) = _
      rw [ih, payStep, if_pos h]
def payM (σ : fM) (s m e : Nat) (got : Int32) : fM := (payF s e (σ, got * σ.1 (iSet s) 2 / 100) m).1
theorem payM_frm {s e m : Nat} (he : e < 6) (hm : m ≤ 8) {σ : fM} (hc : crd σ s m) (got : Int32) : frm2 s σ (payM σ s m e got) := payF_frm (z := (σ, _)) he hm hc m (Nat.le_refl m)

set_option maxRecDepth 100000 in
set_option maxHeartbeats 4000000 in
theorem ct_X3_payCreditors {l : Launch} {X : fX} {σ : fM} {s n m : Nat} (hs : s < 6) (hc : cnt σ s n m) {e : Nat} (he : e < 6) (hcr : crd σ s m) {g : Int32} : Ct l X yX3_payCreditors cX3_payCreditors 7 none 1 [ra X (iS s), .int (nI e), .int g] σ none (payM σ s m e g) := by
  refine Ct.of RX3 rfl (by decide) (Nat.le_of_ble_eq_true rfl) ?_
  intro x hL h hr
  refine g_sub [(0, ra X (iS s)), (1, .int (nI e)), (2, .int g)] ⟨rfl, rfl, rfl, trivial⟩ ?_
  obtain ⟨hn, hm, hn6, hm8⟩ := id hc
  have LOOP : ∀ (q i : Nat), i + q = m → G x X (payF s e (σ, g * σ.1 (iSet s) 2 / 100) i).1 [(0, ra X (iS s)), (1, .int (nI e)), (3, .int (payF s e (σ, g * σ.1 (iSet s) 2 / 100) i).2), (4, .int (nI i))] [] 15 := by
    intro q
    induction q with
    | zero =>
      intro i hi 
      have hie : i = m := by omega
      rw [hie]
      have hm : (payF s e (σ, g * σ.1 (iSet s) 2 / 100) m).1.1 (iS s) 4 = nI m := by rw [(payF_frm (z := (σ, g * σ.1 (iSet s) 2 / 100)) he hm8 hcr m (Nat.le_refl m)).S]; exact hm
      refine g_iload h dX3_payCreditors_15 rfl ?_
      refine g_aload_n h dX3_payCreditors_17 rfl ?_
      refine gf3_40 h (by omega) dX3_payCreditors_18 ?_
      refine g_icge h 116 dX3_payCreditors_21 (by decide) (fun c21 => ?_) (fun c21 => absurd (by rw [hm]; exact Int32.le_refl _) c21)
      exact g_vret h hr dX3_payCreditors_116 rfl
    | succ q ih =>
      intro i hi 
      have hlt : i < m := by omega
      have hf : frm2 s σ (payF s e (σ, g * σ.1 (iSet s) 2 / 100) i).1 := payF_frm (z := (σ, g * σ.1 (iSet s) 2 / 100)) he hm8 hcr i (by omega)
      obtain ⟨cr, hcr6, hcre⟩ := hf.crd hcr i hlt
      have hm : (payF s e (σ, g * σ.1 (iSet s) 2 / 100) i).1.1 (iS s) 4 = nI m := by rw [hf.S]; exact hm
      generalize hz : payF s e (σ, g * σ.1 (iSet s) 2 / 100) i = z at hf hm hcre ⊢
      have hk : (z.1.1 (iL s i) 0).toNatClampNeg = cr := by rw [hcre]; exact nI_clamp (by omega)
      refine g_iload h dX3_payCreditors_15 rfl ?_
      refine g_aload_n h dX3_payCreditors_17 rfl ?_
      refine gf3_40 h (by omega) dX3_payCreditors_18 ?_
      refine g_icge h 116 dX3_payCreditors_21 (by decide) (fun c21 => absurd c21 (by rw [hm]; exact nI_ge hlt (by omega))) (fun c21 => ?_)
      refine g_iload_n h dX3_payCreditors_24 rfl ?_
      refine g_ifle h 116 dX3_payCreditors_25 (by decide) (fun c25 => ?_) (fun c25 => ?_)
      · refine g_mem (payF s e (σ, g * σ.1 (iSet s) 2 / 100) m).1 (by rw [payF_stop (by rw [hz]; exact c25) m (by omega), hz]) ?_
        exact g_vret h hr dX3_payCreditors_116 rfl
      · refine g_aload_n h dX3_payCreditors_28 rfl ?_
        refine gf3_20 h (by omega) dX3_payCreditors_29 ?_
        refine g_iload h dX3_payCreditors_32 rfl ?_
        refine g_aaldL h (by omega) rfl (by omega) dX3_payCreditors_34 ?_
        refine g_astore h dX3_payCreditors_35 (by rw [hL]; decide) ?_
        refine g_aload h dX3_payCreditors_37 rfl ?_
        refine gf3_91 h (by omega) (by omega) dX3_payCreditors_39 ?_
        refine g_iload_n h dX3_payCreditors_42 rfl ?_
        refine g_icne h 110 dX3_payCreditors_43 (by decide) (fun c43 => ?_) (fun c43 => ?_)
        · refine g_iincN h dX3_payCreditors_110 rfl (by rw [hL]; decide) ?_
          refine g_goto h 15 dX3_payCreditors_113 (by decide) ?_
          refine g_mem (payF s e (σ, g * σ.1 (iSet s) 2 / 100) (i + 1)).1 (by show _ = (payStep s e i (payF s e (σ, g * σ.1 (iSet s) 2 / 100) i)).1; rw [hz]; simp [payStep, hk, c21, c25, c43]) ?_
          refine g_sub [(0, ra X (iS s)), (1, .int (nI e)), (3, .int (payF s e (σ, g * σ.1 (iSet s) 2 / 100) (i + 1)).2), (4, .int (nI (i + 1)))] ⟨rfl, rfl, (congrArg (fun z => some (Value.int z)) (by show _ = (payStep s e i (payF s e (σ, g * σ.1 (iSet s) 2 / 100) i)).2; rw [hz]; simp [payStep, hk, c21, c25, c43])), rfl, trivial⟩ ?_
          exact ih (i + 1) (by omega)
        · refine g_iload_n h dX3_payCreditors_46 rfl ?_
          refine g_aload h dX3_payCreditors_47 rfl ?_
          refine gf3_94 h (by omega) (by omega) dX3_payCreditors_49 ?_
          refine g_min3_141 h dX3_payCreditors_52 (by decide) (Nat.le_of_ble_eq_true rfl) ?_
          refine g_istore h dX3_payCreditors_55 (by rw [hL]; decide) ?_
          refine g_iload_n h dX3_payCreditors_57 rfl ?_
          refine g_iload h dX3_payCreditors_58 rfl ?_
          refine g_isub h dX3_payCreditors_60 ?_
          refine g_istore_n h dX3_payCreditors_61 (by rw [hL]; decide) ?_
          refine g_aload h dX3_payCreditors_62 rfl ?_
          refine g_dup h dX3_payCreditors_64 rfl ?_
          refine gf3_94 h (by omega) (by omega) dX3_payCreditors_65 ?_
          refine g_iload h dX3_payCreditors_68 rfl ?_
          refine g_isub h dX3_payCreditors_70 ?_
          refine gp3_94 h (by omega) (by omega) dX3_payCreditors_71 ?_
          refine g_aload_n h dX3_payCreditors_74 rfl ?_
          refine gf3_11 h (by omega) dX3_payCreditors_75 ?_
          refine g_iload_n h dX3_payCreditors_78 rfl ?_
          refine g_aaldO h (by omega) rfl he dX3_payCreditors_79 ?_
          refine g_dup h dX3_payCreditors_80 rfl ?_
          refine gf3_85 h (by omega) (by omega) dX3_payCreditors_81 ?_
          refine g_iload h dX3_payCreditors_84 rfl ?_
          refine g_isub h dX3_payCreditors_86 ?_
          refine gp3_85 h (by omega) (by omega) dX3_payCreditors_87 ?_
          refine g_aload_n h dX3_payCreditors_90 rfl ?_
          refine gf3_11 h (by omega) dX3_payCreditors_91 ?_
          refine g_aload h dX3_payCreditors_94 rfl ?_
          refine gf3_88 h (by omega) (by omega) dX3_payCreditors_96 ?_
          refine g_aaldO h (by omega) (by rw [pu_ne _ (iL_O s i s e (by omega) he), pu_puR, puR_self, upd_n _ _ _ _ (by decide)]; exact hcre) hcr6 dX3_payCreditors_99 ?_
          refine g_dup h dX3_payCreditors_100 rfl ?_
          refine gf3_85 h (by omega) (by omega) dX3_payCreditors_101 ?_
          refine g_iload h dX3_payCreditors_104 rfl ?_
          refine g_iadd h dX3_payCreditors_106 ?_
          refine gp3_85 h (by omega) (by omega) dX3_payCreditors_107 ?_
          refine g_iincN h dX3_payCreditors_110 rfl (by rw [hL]; decide) ?_
          refine g_goto h 15 dX3_payCreditors_113 (by decide) ?_
          refine g_mem (payF s e (σ, g * σ.1 (iSet s) 2 / 100) (i + 1)).1 (by show _ = (payStep s e i (payF s e (σ, g * σ.1 (iSet s) 2 / 100) i)).1; rw [hz]; simp [payStep, hk, c21, c25, c43]) ?_
          refine g_sub [(0, ra X (iS s)), (1, .int (nI e)), (3, .int (payF s e (σ, g * σ.1 (iSet s) 2 / 100) (i + 1)).2), (4, .int (nI (i + 1)))] ⟨rfl, rfl, (congrArg (fun z => some (Value.int z)) (by show _ = (payStep s e i (payF s e (σ, g * σ.1 (iSet s) 2 / 100) i)).2; rw [hz]; simp [payStep, hk, c21, c25, c43])), rfl, trivial⟩ ?_
          exact ih (i + 1) (by omega)
  refine g_iload_n h dX3_payCreditors_0 rfl ?_
  refine g_aload_n h dX3_payCreditors_1 rfl ?_
  refine gf3_25 h (by omega) dX3_payCreditors_2 ?_
  refine g_iconst (v := 2) h dX3_payCreditors_5 (by decide) ?_
  refine g_ialdSet h (by omega) (show (2 : Int32) = nI 2 by decide) (by decide) dX3_payCreditors_6 ?_
  refine g_imul h dX3_payCreditors_7 ?_
  refine g_bipush (v := 100) h dX3_payCreditors_8 (by decide) ?_
  refine g_idiv h dX3_payCreditors_10 (by decide) ?_
  refine g_istore_n h dX3_payCreditors_11 (by rw [hL]; decide) ?_
  refine g_iconst (v := 0) h dX3_payCreditors_12 (by decide) ?_
  refine g_istore h dX3_payCreditors_13 (by rw [hL]; decide) ?_
  refine g_sub [(0, ra X (iS s)), (1, .int (nI e)), (3, .int (payF s e (σ, g * σ.1 (iSet s) 2 / 100) 0).2), (4, .int (nI 0))] ⟨rfl, rfl, rfl, lk_0, trivial⟩ ?_
  exact LOOP m 0 (by omega)

def dropStep (s l : Nat) (z : fM × Nat) : fM × Nat := if z.1.1 (iL s l) 2 ≤ 0 then z else (puR z.1 (iL s z.2) (lCopy (z.1.1 (iL s l)) (z.1.1 (iL s z.2))), z.2 + 1)
def dropF (s : Nat) (z : fM × Nat) : Nat → fM × Nat
  | 0 => z
  | l + 1 => dropStep s l (dropF s z l)
def dropM (σ : fM) (s m : Nat) : fM := pu (dropF s (σ, 0) m).1 (iS s) 4 (nI (dropF s (σ, 0) m).2)
theorem dropF_le (s : Nat) (σ : fM) : ∀ l, (dropF s (σ, 0) l).2 ≤ l
  | 0 => Nat.le_refl 0
  | l + 1 => by
    have ih := dropF_le s σ l
    show (dropStep s l (dropF s (σ, 0) l)).2 ≤ l + 1
    unfold dropStep
    split
    · omega
    · show _ + 1 ≤ _; omega
theorem dropF_ne {s : Nat} {σ : fM} {k : Nat} (hk : ∀ i, i < 8 → k ≠ iL s i) : ∀ l, l ≤ 8 → (dropF s (σ, 0) l).1.1 k = σ.1 k
  | 0, _ => rfl
  | l + 1, h => by
    have ih := dropF_ne (σ := σ) hk l (by omega)
    have hle := dropF_le s σ l
    show (dropStep s l (dropF s (σ, 0) l)).1.1 k = _
    unfold dropStep
    split
    · exact ih
    · rw [← ih]; exact puR_ne _ (hk _ (by omega))
theorem dropF_S {s : Nat} {σ : fM} (s' : Nat) {l : Nat} (h : l ≤ 8) : (dropF s (σ, 0) l).1.1 (iS s') = σ.1 (iS s') := dropF_ne (fun i hi => (iL_S s i s' hi).symm) l h
theorem lCopy_self (f : Nat → Int32) : lCopy f f = f := by
  funext j
  unfold lCopy upd
  by_cases h2 : j = 2
  · subst h2; rfl
  · by_cases h1 : j = 1
    · subst h1; rfl
    · by_cases h0 : j = 0
      · subst h0; rfl
      · simp [h0, h1, h2]

set_option maxRecDepth 100000 in
set_option maxHeartbeats 4000000 in
theorem ct_X0_copySelf {l : Launch} {X : fX} {σ : fM} {s i : Nat} (hs : s < 6) (hi : i < 8) : Ct l X yX0_copyFrom cX0_copyFrom 2 none 0 [ra X (iL s i), ra X (iL s i)] σ none σ := by
  refine Ct.of RX0 rfl (by decide) (Nat.le_of_ble_eq_true rfl) ?_
  intro x hL h hr
  refine g_sub [(0, ra X (iL s i)), (1, ra X (iL s i))] ⟨rfl, rfl, trivial⟩ ?_
  refine g_aload_n h dX0_copyFrom_0 rfl ?_
  refine g_aload_n h dX0_copyFrom_1 rfl ?_
  refine gf0_7 h (by omega) (by omega) dX0_copyFrom_2 ?_
  refine gp0_7 h (by omega) (by omega) dX0_copyFrom_5 ?_
  refine g_aload_n h dX0_copyFrom_8 rfl ?_
  refine g_aload_n h dX0_copyFrom_9 rfl ?_
  refine gf0_13 h (by omega) (by omega) dX0_copyFrom_10 ?_
  refine gp0_13 h (by omega) (by omega) dX0_copyFrom_13 ?_
  refine g_aload_n h dX0_copyFrom_16 rfl ?_
  refine g_aload_n h dX0_copyFrom_17 rfl ?_
  refine gf0_16 h (by omega) (by omega) dX0_copyFrom_18 ?_
  refine gp0_16 h (by omega) (by omega) dX0_copyFrom_21 ?_
  exact g_vret h hr dX0_copyFrom_24 (by simp +decide only [pu_puR, puR_puR, puR_self, upd_n, upd_s]; exact (congrArg (puR σ _) (lCopy_self (σ.1 (iL s i)))).trans (puR_id σ _))


theorem ct_X0_copyAny {l : Launch} {X : fX} {σ : fM} {s i i2 : Nat} (hs : s < 6) (hi : i < 8) (hi2 : i2 < 8) : Ct l X yX0_copyFrom cX0_copyFrom 2 (none) 0 [ra X (iL s i), ra X (iL s i2)] σ none (puR σ (iL s i) (lCopy (σ.1 (iL s i2)) (σ.1 (iL s i)))) := by
  by_cases h : i2 = i
  · subst h
    rw [lCopy_self, puR_id]
    exact ct_X0_copySelf hs hi
  · exact ct_X0_copyFrom hs hi hs hi2 (fun e => h (iL_inj s _ _ e))

set_option maxRecDepth 100000 in
set_option maxHeartbeats 4000000 in
theorem ct_X3_dropLoansPaidBack {l : Launch} {X : fX} {σ : fM} {s n m : Nat} (hs : s < 6) (hc : cnt σ s n m) : Ct l X yX3_dropLoansPaidBack cX3_dropLoansPaidBack 3 none 1 [ra X (iS s)] σ none (dropM σ s m) := by
  refine Ct.of RX3 rfl (by decide) (Nat.le_of_ble_eq_true rfl) ?_
  intro x hL h hr
  refine g_sub [(0, ra X (iS s))] ⟨rfl, trivial⟩ ?_
  obtain ⟨hn, hm, hn6, hm8⟩ := id hc
  have LOOP : ∀ (q i : Nat), i + q = m → G x X (dropF s (σ, 0) i).1 [(0, ra X (iS s)), (1, .int (nI (dropF s (σ, 0) i).2)), (2, .int (nI i))] [] 4 := by
    intro q
    induction q with
    | zero =>
      intro i hi 
      have hie : i = m := by omega
      rw [hie]
      have hm : (dropF s (σ, 0) m).1.1 (iS s) 4 = nI m := by rw [dropF_S s (by omega)]; exact hm
      refine g_iload_n h dX3_dropLoansPaidBack_4 rfl ?_
      refine g_aload_n h dX3_dropLoansPaidBack_5 rfl ?_
      refine gf3_40 h (by omega) dX3_dropLoansPaidBack_6 ?_
      refine g_icge h 48 dX3_dropLoansPaidBack_9 (by decide) (fun c9 => ?_) (fun c9 => absurd (by rw [hm]; exact Int32.le_refl _) c9)
      refine g_aload_n h dX3_dropLoansPaidBack_48 rfl ?_
      refine g_iload_n h dX3_dropLoansPaidBack_49 rfl ?_
      refine gp3_40 h (by omega) dX3_dropLoansPaidBack_50 ?_
      exact g_vret h hr dX3_dropLoansPaidBack_53 rfl
    | succ q ih =>
      intro i hi 
      have hlt : i < m := by omega
      have hle := dropF_le s σ i
      have hm : (dropF s (σ, 0) i).1.1 (iS s) 4 = nI m := by rw [dropF_S s (by omega)]; exact hm
      generalize hz : dropF s (σ, 0) i = z at hle hm ⊢
      refine g_iload_n h dX3_dropLoansPaidBack_4 rfl ?_
      refine g_aload_n h dX3_dropLoansPaidBack_5 rfl ?_
      refine gf3_40 h (by omega) dX3_dropLoansPaidBack_6 ?_
      refine g_icge h 48 dX3_dropLoansPaidBack_9 (by decide) (fun c9 => absurd c9 (by rw [hm]; exact nI_ge hlt (by omega))) (fun c9 => ?_)
      refine g_aload_n h dX3_dropLoansPaidBack_12 rfl ?_
      refine gf3_20 h (by omega) dX3_dropLoansPaidBack_13 ?_
      refine g_iload_n h dX3_dropLoansPaidBack_16 rfl ?_
      refine g_aaldL h (by omega) rfl (by omega) dX3_dropLoansPaidBack_17 ?_
      refine gf3_94 h (by omega) (by omega) dX3_dropLoansPaidBack_18 ?_
      refine g_ifle h 42 dX3_dropLoansPaidBack_21 (by decide) (fun c21 => ?_) (fun c21 => ?_)
      · refine g_iincN h dX3_dropLoansPaidBack_42 rfl (by rw [hL]; decide) ?_
        refine g_goto h 4 dX3_dropLoansPaidBack_45 (by decide) ?_
        refine g_mem (dropF s (σ, 0) (i + 1)).1 (by show _ = (dropStep s i (dropF s (σ, 0) i)).1; rw [hz]; simp [dropStep, c9, c21]) ?_
        refine g_sub [(0, ra X (iS s)), (1, .int (nI (dropF s (σ, 0) (i + 1)).2)), (2, .int (nI (i + 1)))] ⟨rfl, (congrArg (fun z => some (Value.int z)) (by show _ = nI (dropStep s i (dropF s (σ, 0) i)).2; rw [hz]; simp [dropStep, c9, c21, nI_succ])), rfl, trivial⟩ ?_
        exact ih (i + 1) (by omega)
      · refine g_aload_n h dX3_dropLoansPaidBack_24 rfl ?_
        refine gf3_20 h (by omega) dX3_dropLoansPaidBack_25 ?_
        refine g_iload_n h dX3_dropLoansPaidBack_28 rfl ?_
        refine g_aaldL h (by omega) rfl (by omega) dX3_dropLoansPaidBack_29 ?_
        refine g_aload_n h dX3_dropLoansPaidBack_30 rfl ?_
        refine gf3_20 h (by omega) dX3_dropLoansPaidBack_31 ?_
        refine g_iload_n h dX3_dropLoansPaidBack_34 rfl ?_
        refine g_aaldL h (by omega) rfl (by omega) dX3_dropLoansPaidBack_35 ?_
        refine cl3_43 h (by omega) (by omega) (ct_X0_copyAny hs (by omega) (by omega)) rfl dX3_dropLoansPaidBack_36 rfl (Nat.le_of_ble_eq_true rfl) (by decide) ?_
        refine g_iincN h dX3_dropLoansPaidBack_39 rfl (by rw [hL]; decide) ?_
        refine g_iincN h dX3_dropLoansPaidBack_42 rfl (by rw [hL]; decide) ?_
        refine g_goto h 4 dX3_dropLoansPaidBack_45 (by decide) ?_
        refine g_mem (dropF s (σ, 0) (i + 1)).1 (by show _ = (dropStep s i (dropF s (σ, 0) i)).1; rw [hz]; simp [dropStep, c9, c21]) ?_
        refine g_sub [(0, ra X (iS s)), (1, .int (nI (dropF s (σ, 0) (i + 1)).2)), (2, .int (nI (i + 1)))] ⟨rfl, (congrArg (fun z => some (Value.int z)) (by show _ = nI (dropStep s i (dropF s (σ, 0) i)).2; rw [hz]; simp [dropStep, c9, c21, nI_succ])), rfl, trivial⟩ ?_
        exact ih (i + 1) (by omega)
  refine g_iconst (v := 0) h dX3_dropLoansPaidBack_0 (by decide) ?_
  refine g_istore_n h dX3_dropLoansPaidBack_1 (by rw [hL]; decide) ?_
  refine g_iconst (v := 0) h dX3_dropLoansPaidBack_2 (by decide) ?_
  refine g_istore_n h dX3_dropLoansPaidBack_3 (by rw [hL]; decide) ?_
  refine g_sub [(0, ra X (iS s)), (1, .int (nI (dropF s (σ, 0) 0).2)), (2, .int (nI 0))] ⟨rfl, lk_0, lk_0, trivial⟩ ?_
  exact LOOP m 0 (by omega)

def stk (σ : fM) (s n : Nat) (b : Int32) : Int32 := sumF 0 (fun i => if σ.1 (iO s i) 9 = b then σ.1 (iO s i) 10 else 0) n
def setlStep (s m : Nat) (k left right : Int32) (i : Nat) (z : fM × Int32) : fM × Int32 :=
  if ¬ z.1.1 (iO s i) 9 = k then (pu z.1 (iO s i) 2 (z.1.1 (iO s i) 2 - z.1.1 (iO s i) 10), z.2)
  else (payM (pu z.1 (iO s i) 2 (z.1.1 (iO s i) 2 + left * z.1.1 (iO s i) 10 / right)) s m i (left * z.1.1 (iO s i) 10 / right), z.2 + left * z.1.1 (iO s i) 10 / right)
def setlF (s m : Nat) (k left right : Int32) (z : fM × Int32) : Nat → fM × Int32
  | 0 => z
  | i + 1 => setlStep s m k left right i (setlF s m k left right z i)
theorem setlStep_frm {s m i : Nat} {k left right : Int32} (hi : i < 6) (hm : m ≤ 8) {z : fM × Int32} (hc : crd z.1 s m) : frm2 s z.1 (setlStep s m k left right i z).1 := by
  unfold setlStep
  split
  · exact frm2.O hi _ _
  · exact (frm2.O hi _ _).tr (payM_frm hi hm ((frm2.O hi _ _).crd hc) _)
theorem setlF_frm {s m n : Nat} {k left right : Int32} (hn : n ≤ 6) (hm : m ≤ 8) {z : fM × Int32} (hc : crd z.1 s m) : ∀ i, i ≤ n → frm2 s z.1 (setlF s m k left right z i).1
  | 0, _ => frm2.rf _ _
  | i + 1, h => by
    have ih := setlF_frm (k := k) (left := left) (right := right) hn hm hc i (by omega)
    exact ih.tr (setlStep_frm (by omega) hm (ih.crd hc))
def setlLeft (σ : fM) (s n : Nat) (k : Int32) : Int32 := stk σ s n (1 - k) - stk σ s n (1 - k) * σ.1 (iSet s) 1 / 100
def setlZ (σ : fM) (s n m : Nat) (k : Int32) : fM × Int32 := setlF s m k (setlLeft σ s n k) (stk σ s n k) (pu σ (iS s) 8 (σ.1 (iS s) 8 + 1), 0) n
def setlV (σ : fM) (s n : Nat) (k : Int32) : Int32 := if stk σ s n (1 - k) ≤ 0 then 0 else if 0 < stk σ s n k then stk σ s n (1 - k) else 0
def setlM (σ : fM) (s n m : Nat) (k : Int32) : fM := if stk σ s n (1 - k) ≤ 0 then σ else if 0 < stk σ s n k then
  dropM (pu (setlZ σ s n m k).1 (iS s) 5 ((setlZ σ s n m k).1.1 (iS s) 5 + (stk σ s n (1 - k) - (setlZ σ s n m k).2))) s m else σ
theorem crd_S {σ : fM} {s m : Nat} (h : crd σ s m) (hm : m ≤ 8) (j : Nat) (v : Int32) : crd (pu σ (iS s) j v) s m := fun l hl => by rw [pu_ne _ (iL_S s l s (by omega))]; exact h l hl

set_option maxRecDepth 100000 in
set_option maxHeartbeats 4000000 in
theorem ct_X3_settleBets {l : Launch} {X : fX} {σ : fM} {s n m : Nat} (hs : s < 6) (hc : cnt σ s n m) (hcr : crd σ s m) {k : Int32} : Ct l X yX3_settleBets cX3_settleBets 9 (some .int) 2 [ra X (iS s), .int k] σ (some (.int (setlV σ s n k))) (setlM σ s n m k) := by
  refine Ct.of RX3 rfl (by decide) (Nat.le_of_ble_eq_true rfl) ?_
  intro x hL h hr
  refine g_sub [(0, ra X (iS s)), (1, .int k)] ⟨rfl, rfl, trivial⟩ ?_
  obtain ⟨hn, hm, hn6, hm8⟩ := id hc
  refine g_aload_n h dX3_settleBets_0 rfl ?_
  refine g_iconst (v := 1) h dX3_settleBets_1 (by decide) ?_
  refine g_iload_n h dX3_settleBets_2 rfl ?_
  refine g_isub h dX3_settleBets_3 ?_
  refine cl3_132 h (by omega) (ct_X3_stakesOn hs hc) rfl dX3_settleBets_4 rfl (Nat.le_of_ble_eq_true rfl) (by decide) ?_
  refine g_istore_n h dX3_settleBets_7 (by rw [hL]; decide) ?_
  refine g_aload_n h dX3_settleBets_8 rfl ?_
  refine g_iload_n h dX3_settleBets_9 rfl ?_
  refine cl3_132 h (by omega) (ct_X3_stakesOn hs hc) rfl dX3_settleBets_10 rfl (Nat.le_of_ble_eq_true rfl) (by decide) ?_
  refine g_istore_n h dX3_settleBets_13 (by rw [hL]; decide) ?_
  refine g_iload_n h dX3_settleBets_14 rfl ?_
  refine g_ifle h 22 dX3_settleBets_15 (by decide) (fun c15 => ?_) (fun c15 => ?_)
  · refine g_iconst (v := 0) h dX3_settleBets_22 (by decide) ?_
    exact g_iret h hr dX3_settleBets_23 (by first | exact (if_pos c15).symm | exact ((if_neg c15).trans (if_neg c19)).symm) (by first | exact (if_pos c15).symm | exact ((if_neg c15).trans (if_neg c19)).symm)
  · refine g_iload_n h dX3_settleBets_18 rfl ?_
    refine g_ifgt h 24 dX3_settleBets_19 (by decide) (fun c19 => ?_) (fun c19 => ?_)
    · have hc1 : cnt (pu σ (iS s) 8 (σ.1 (iS s) 8 + 1)) s n m := ⟨by rw [pu_puR, puR_self, upd_n _ _ _ _ (by decide)]; exact hn, by rw [pu_puR, puR_self, upd_n _ _ _ _ (by decide)]; exact hm, hn6, hm8⟩
      have c15 : ¬ stk σ s n (1 - k) ≤ 0 := c15
      have c19 : 0 < stk σ s n k := c19
      have hrn : ¬ stk σ s n k = 0 := fun e => by rw [e] at c19; exact absurd c19 (by decide)
      have hv : setlV σ s n k = stk σ s n (1 - k) := by unfold setlV; rw [if_neg c15, if_pos c19]
      have hM : setlM σ s n m k = dropM (pu (setlZ σ s n m k).1 (iS s) 5 ((setlZ σ s n m k).1.1 (iS s) 5 + (stk σ s n (1 - k) - (setlZ σ s n m k).2))) s m := by unfold setlM; rw [if_neg c15, if_pos c19]
      have LOOP : ∀ (q i : Nat), i + q = n → G x X (setlF s m k (setlLeft σ s n k) (stk σ s n k) (pu σ (iS s) 8 (σ.1 (iS s) 8 + 1), 0) i).1 [(0, ra X (iS s)), (1, .int k), (2, .int (stk σ s n (1 - k))), (3, .int (stk σ s n k)), (4, .int (setlLeft σ s n k)), (5, .int (setlF s m k (setlLeft σ s n k) (stk σ s n k) (pu σ (iS s) 8 (σ.1 (iS s) 8 + 1), 0) i).2), (6, .int (nI i))] [] 55 := by
        intro q
        induction q with
        | zero =>
          intro i hi 
          have hie : i = n := by omega
          rw [hie]
          have hf : frm2 s (pu σ (iS s) 8 (σ.1 (iS s) 8 + 1)) (setlF s m k (setlLeft σ s n k) (stk σ s n k) (pu σ (iS s) 8 (σ.1 (iS s) 8 + 1), 0) n).1 := setlF_frm (z := (pu σ (iS s) 8 (σ.1 (iS s) 8 + 1), 0)) hn6 hm8 (crd_S hcr hm8 _ _) n (Nat.le_refl n)
          have hn : (setlF s m k (setlLeft σ s n k) (stk σ s n k) (pu σ (iS s) 8 (σ.1 (iS s) 8 + 1), 0) n).1.1 (iS s) 3 = nI n := (hf.cnt hc1).1
          have hcD : cnt (pu (setlF s m k (setlLeft σ s n k) (stk σ s n k) (pu σ (iS s) 8 (σ.1 (iS s) 8 + 1), 0) n).1 (iS s) 5 ((setlF s m k (setlLeft σ s n k) (stk σ s n k) (pu σ (iS s) 8 (σ.1 (iS s) 8 + 1), 0) n).1.1 (iS s) 5 + (stk σ s n (1 - k) - (setlF s m k (setlLeft σ s n k) (stk σ s n k) (pu σ (iS s) 8 (σ.1 (iS s) 8 + 1), 0) n).2))) s n m := ⟨by rw [pu_puR, puR_self, upd_n _ _ _ _ (by decide)]; exact (hf.cnt hc1).1, by rw [pu_puR, puR_self, upd_n _ _ _ _ (by decide)]; exact (hf.cnt hc1).2.1, hn6, hm8⟩
          refine g_iload h dX3_settleBets_55 rfl ?_
          refine g_aload_n h dX3_settleBets_57 rfl ?_
          refine gf3_32 h (by omega) dX3_settleBets_58 ?_
          refine g_icge h 145 dX3_settleBets_61 (by decide) (fun c61 => ?_) (fun c61 => absurd (by rw [hn]; exact Int32.le_refl _) c61)
          refine g_aload_n h dX3_settleBets_145 rfl ?_
          refine g_dup h dX3_settleBets_146 rfl ?_
          refine gf3_52 h (by omega) dX3_settleBets_147 ?_
          refine g_iload_n h dX3_settleBets_150 rfl ?_
          refine g_iload h dX3_settleBets_151 rfl ?_
          refine g_isub h dX3_settleBets_153 ?_
          refine g_iadd h dX3_settleBets_154 ?_
          refine gp3_52 h (by omega) dX3_settleBets_155 ?_
          refine g_aload_n h dX3_settleBets_158 rfl ?_
          refine cl3_138 h (by omega) (ct_X3_dropLoansPaidBack hs hcD) rfl dX3_settleBets_159 rfl (Nat.le_of_ble_eq_true rfl) (by decide) ?_
          refine g_iload_n h dX3_settleBets_162 rfl ?_
          exact g_iret h hr dX3_settleBets_163 hv.symm hM.symm
        | succ q ih =>
          intro i hi 
          have hlt : i < n := by omega
          have hf : frm2 s (pu σ (iS s) 8 (σ.1 (iS s) 8 + 1)) (setlF s m k (setlLeft σ s n k) (stk σ s n k) (pu σ (iS s) 8 (σ.1 (iS s) 8 + 1), 0) i).1 := setlF_frm (z := (pu σ (iS s) 8 (σ.1 (iS s) 8 + 1), 0)) hn6 hm8 (crd_S hcr hm8 _ _) i (by omega)
          have hcr2 := hf.crd (crd_S hcr hm8 _ _)
          have hc2 := hf.cnt (hc1 : cnt (pu σ (iS s) 8 (σ.1 (iS s) 8 + 1)) s n m)
          have hn : (setlF s m k (setlLeft σ s n k) (stk σ s n k) (pu σ (iS s) 8 (σ.1 (iS s) 8 + 1), 0) i).1.1 (iS s) 3 = nI n := hc2.1
          generalize hz : setlF s m k (setlLeft σ s n k) (stk σ s n k) (pu σ (iS s) 8 (σ.1 (iS s) 8 + 1), 0) i = z at hf hn hcr2 hc2 ⊢
          refine g_iload h dX3_settleBets_55 rfl ?_
          refine g_aload_n h dX3_settleBets_57 rfl ?_
          refine gf3_32 h (by omega) dX3_settleBets_58 ?_
          refine g_icge h 145 dX3_settleBets_61 (by decide) (fun c61 => absurd c61 (by rw [hn]; exact nI_ge hlt (by omega))) (fun c61 => ?_)
          refine g_aload_n h dX3_settleBets_64 rfl ?_
          refine gf3_11 h (by omega) dX3_settleBets_65 ?_
          refine g_iload h dX3_settleBets_68 rfl ?_
          refine g_aaldO h (by omega) rfl (by omega) dX3_settleBets_70 ?_
          refine g_astore h dX3_settleBets_71 (by rw [hL]; decide) ?_
          refine g_aload h dX3_settleBets_73 rfl ?_
          refine gf3_111 h (by omega) (by omega) dX3_settleBets_75 ?_
          refine g_iload_n h dX3_settleBets_78 rfl ?_
          refine g_icne h 124 dX3_settleBets_79 (by decide) (fun c79 => ?_) (fun c79 => ?_)
          · refine g_aload h dX3_settleBets_124 rfl ?_
            refine g_dup h dX3_settleBets_126 rfl ?_
            refine gf3_85 h (by omega) (by omega) dX3_settleBets_127 ?_
            refine g_aload h dX3_settleBets_130 rfl ?_
            refine gf3_101 h (by omega) (by omega) dX3_settleBets_132 ?_
            refine g_isub h dX3_settleBets_135 ?_
            refine gp3_85 h (by omega) (by omega) dX3_settleBets_136 ?_
            refine g_iincN h dX3_settleBets_139 rfl (by rw [hL]; decide) ?_
            refine g_goto h 55 dX3_settleBets_142 (by decide) ?_
            refine g_mem (setlF s m k (setlLeft σ s n k) (stk σ s n k) (pu σ (iS s) 8 (σ.1 (iS s) 8 + 1), 0) (i + 1)).1 (by show _ = (setlStep s m k _ _ i (setlF s m k (setlLeft σ s n k) (stk σ s n k) (pu σ (iS s) 8 (σ.1 (iS s) 8 + 1), 0) i)).1; rw [hz]; simp [setlStep, c61, c79]) ?_
            refine g_sub [(0, ra X (iS s)), (1, .int k), (2, .int (stk σ s n (1 - k))), (3, .int (stk σ s n k)), (4, .int (setlLeft σ s n k)), (5, .int (setlF s m k (setlLeft σ s n k) (stk σ s n k) (pu σ (iS s) 8 (σ.1 (iS s) 8 + 1), 0) (i + 1)).2), (6, .int (nI (i + 1)))] ⟨rfl, rfl, rfl, rfl, rfl, (congrArg (fun z => some (Value.int z)) (by show _ = (setlStep s m k _ _ i (setlF s m k (setlLeft σ s n k) (stk σ s n k) (pu σ (iS s) 8 (σ.1 (iS s) 8 + 1), 0) i)).2; rw [hz]; simp [setlStep, c61, c79])), rfl, trivial⟩ ?_
            exact ih (i + 1) (by omega)
          · refine g_iload h dX3_settleBets_82 rfl ?_
            refine g_aload h dX3_settleBets_84 rfl ?_
            refine gf3_101 h (by omega) (by omega) dX3_settleBets_86 ?_
            refine g_imul h dX3_settleBets_89 ?_
            refine g_iload_n h dX3_settleBets_90 rfl ?_
            refine g_idiv h dX3_settleBets_91 hrn ?_
            refine g_istore h dX3_settleBets_92 (by rw [hL]; decide) ?_
            refine g_aload h dX3_settleBets_94 rfl ?_
            refine g_dup h dX3_settleBets_96 rfl ?_
            refine gf3_85 h (by omega) (by omega) dX3_settleBets_97 ?_
            refine g_iload h dX3_settleBets_100 rfl ?_
            refine g_iadd h dX3_settleBets_102 ?_
            refine gp3_85 h (by omega) (by omega) dX3_settleBets_103 ?_
            refine g_iload h dX3_settleBets_106 rfl ?_
            refine g_iload h dX3_settleBets_108 rfl ?_
            refine g_iadd h dX3_settleBets_110 ?_
            refine g_istore h dX3_settleBets_111 (by rw [hL]; decide) ?_
            refine g_aload_n h dX3_settleBets_113 rfl ?_
            refine g_iload h dX3_settleBets_114 rfl ?_
            refine g_iload h dX3_settleBets_116 rfl ?_
            refine cl3_135 h (by omega) (ct_X3_payCreditors hs ((frm2.O (s := s) (i := i) (by omega) _ _).cnt hc2) (by omega) ((frm2.O (s := s) (i := i) (by omega) _ _).crd hcr2)) rfl dX3_settleBets_118 rfl (Nat.le_of_ble_eq_true rfl) (by decide) ?_
            refine g_goto h 139 dX3_settleBets_121 (by decide) ?_
            refine g_iincN h dX3_settleBets_139 rfl (by rw [hL]; decide) ?_
            refine g_goto h 55 dX3_settleBets_142 (by decide) ?_
            refine g_mem (setlF s m k (setlLeft σ s n k) (stk σ s n k) (pu σ (iS s) 8 (σ.1 (iS s) 8 + 1), 0) (i + 1)).1 (by show _ = (setlStep s m k _ _ i (setlF s m k (setlLeft σ s n k) (stk σ s n k) (pu σ (iS s) 8 (σ.1 (iS s) 8 + 1), 0) i)).1; rw [hz]; simp [setlStep, c61, c79]) ?_
            refine g_sub [(0, ra X (iS s)), (1, .int k), (2, .int (stk σ s n (1 - k))), (3, .int (stk σ s n k)), (4, .int (setlLeft σ s n k)), (5, .int (setlF s m k (setlLeft σ s n k) (stk σ s n k) (pu σ (iS s) 8 (σ.1 (iS s) 8 + 1), 0) (i + 1)).2), (6, .int (nI (i + 1)))] ⟨rfl, rfl, rfl, rfl, rfl, (congrArg (fun z => some (Value.int z)) (by show _ = (setlStep s m k _ _ i (setlF s m k (setlLeft σ s n k) (stk σ s n k) (pu σ (iS s) 8 (σ.1 (iS s) 8 + 1), 0) i)).2; rw [hz]; simp [setlStep, c61, c79])), rfl, trivial⟩ ?_
            exact ih (i + 1) (by omega)
      refine g_aload_n h dX3_settleBets_24 rfl ?_
      refine g_dup h dX3_settleBets_25 rfl ?_
      refine gf3_61 h (by omega) dX3_settleBets_26 ?_
      refine g_iconst (v := 1) h dX3_settleBets_29 (by decide) ?_
      refine g_iadd h dX3_settleBets_30 ?_
      refine gp3_61 h (by omega) dX3_settleBets_31 ?_
      refine g_iload_n h dX3_settleBets_34 rfl ?_
      refine g_iload_n h dX3_settleBets_35 rfl ?_
      refine g_aload_n h dX3_settleBets_36 rfl ?_
      refine gf3_25 h (by omega) dX3_settleBets_37 ?_
      refine g_iconst (v := 1) h dX3_settleBets_40 (by decide) ?_
      refine g_ialdSet h (by omega) (show (1 : Int32) = nI 1 by decide) (by decide) dX3_settleBets_41 ?_
      refine g_imul h dX3_settleBets_42 ?_
      refine g_bipush (v := 100) h dX3_settleBets_43 (by decide) ?_
      refine g_idiv h dX3_settleBets_45 (by decide) ?_
      refine g_isub h dX3_settleBets_46 ?_
      refine g_istore h dX3_settleBets_47 (by rw [hL]; decide) ?_
      refine g_iconst (v := 0) h dX3_settleBets_49 (by decide) ?_
      refine g_istore h dX3_settleBets_50 (by rw [hL]; decide) ?_
      refine g_iconst (v := 0) h dX3_settleBets_52 (by decide) ?_
      refine g_istore h dX3_settleBets_53 (by rw [hL]; decide) ?_
      refine g_sub [(0, ra X (iS s)), (1, .int k), (2, .int (stk σ s n (1 - k))), (3, .int (stk σ s n k)), (4, .int (setlLeft σ s n k)), (5, .int (setlF s m k (setlLeft σ s n k) (stk σ s n k) (pu σ (iS s) 8 (σ.1 (iS s) 8 + 1), 0) 0).2), (6, .int (nI 0))] ⟨rfl, rfl, rfl, rfl, (congrArg (fun z => some (Value.int z)) (by rw [pu_ne _ (iS_Set s s).symm]; rfl)), rfl, lk_0, trivial⟩ ?_
      exact LOOP n 0 (by omega)
    · refine g_iconst (v := 0) h dX3_settleBets_22 (by decide) ?_
      exact g_iret h hr dX3_settleBets_23 (by first | exact (if_pos c15).symm | exact ((if_neg c15).trans (if_neg c19)).symm) (by first | exact (if_pos c15).symm | exact ((if_neg c15).trans (if_neg c19)).symm)

theorem foR2_n (σ : fM) (s n : Nat) (a : Int32) (i j : Nat) (h9 : ¬ j = 9) (h10 : ¬ j = 10) : foR2 σ s n a i j = σ.1 (iO s i) j := by
  unfold foR2 foR1
  split
  · rw [upd_n _ _ _ _ h9, upd_n _ _ _ _ h10]
  · rw [upd_n _ _ _ _ h9, upd_n _ _ _ _ h10]
theorem fore_O {σ : fM} {s n i : Nat} (a : Int32) (hi : i < n) : (fore σ s n a).1 (iO s i) = foR2 σ s n a i := setF_at (iO_inj s) hi
theorem fore_ne {σ : fM} {s n k : Nat} (a : Int32) (h : ∀ i, i < n → iO s i ≠ k) : (fore σ s n a).1 k = σ.1 k := (setF_ne h).trans (setF_ne h)
theorem fore_2 (σ : fM) (s n : Nat) (a : Int32) : (fore σ s n a).2 = σ.2 := (setF_2 _ _ _ _).trans (setF_2 _ _ _ _)
theorem fore_cnt {σ : fM} {s n m : Nat} (a : Int32) (hc : cnt σ s n m) : cnt (fore σ s n a) s n m := by
  have hn6 := hc.2.2.1
  have e : (fore σ s n a).1 (iS s) = σ.1 (iS s) := fore_ne a (fun i hi => iO_S s i s (by omega))
  exact ⟨by rw [e]; exact hc.1, by rw [e]; exact hc.2.1, hc.2.2⟩
theorem fore_crd {σ : fM} {s n m : Nat} (a : Int32) (hn : n ≤ 6) (hm : m ≤ 8) (h : crd σ s m) : crd (fore σ s n a) s m := fun l hl => by
  rw [fore_ne a (fun i hi => (iL_O s l s i (by omega) (by omega)).symm)]
  exact h l hl
theorem oGood_cg {f f' : Nat → Int32} (h0 : f' 0 = f 0) (h1 : f' 1 = f 1) (h : oGood f) : oGood f' := by
  intro ht
  rw [h1]
  exact h (by unfold oTab at ht ⊢; rw [← h0]; exact ht)
theorem drop_O {s : Nat} (σ : fM) (s' i m : Nat) (hi : i < 6) (hm : m ≤ 8) : (dropM σ s m).1 (iO s' i) = σ.1 (iO s' i) := by
  unfold dropM
  rw [pu_ne _ (iO_S s' i s hi), dropF_ne (fun l hl => (iL_O s l s' i hl hi).symm) m hm]
theorem drop_cnt {σ : fM} {s n m : Nat} (hc : cnt σ s n m) : cnt (dropM σ s m) s n (dropF s (σ, 0) m).2 := by
  have hle := dropF_le s σ m
  have hm8 := hc.2.2.2
  refine ⟨?_, ?_, hc.2.2.1, by omega⟩
  · unfold dropM
    rw [pu_puR, puR_self, upd_n _ _ _ _ (by decide), dropF_S s hm8]
    exact hc.1
  · unfold dropM
    rw [pu_puR, puR_self, upd_s]
/-- how many loans there are behind the bets -/
def setlN (σ : fM) (s n m : Nat) (k : Int32) : Nat := if stk σ s n (1 - k) ≤ 0 then m else if 0 < stk σ s n k then
  (dropF s (pu (setlZ σ s n m k).1 (iS s) 5 ((setlZ σ s n m k).1.1 (iS s) 5 + (stk σ s n (1 - k) - (setlZ σ s n m k).2)), 0) m).2 else m
theorem setlZ_frm {σ : fM} {s n m : Nat} (k : Int32) (hc : cnt σ s n m) (hcr : crd σ s m) : frm2 s (pu σ (iS s) 8 (σ.1 (iS s) 8 + 1)) (setlZ σ s n m k).1 :=
  setlF_frm (z := (pu σ (iS s) 8 (σ.1 (iS s) 8 + 1), 0)) hc.2.2.1 hc.2.2.2 (crd_S hcr hc.2.2.2 _ _) n (Nat.le_refl n)
theorem cnt_pu {σ : fM} {s n m : Nat} (hc : cnt σ s n m) (j : Nat) (v : Int32) (h3 : ¬ 3 = j) (h4 : ¬ 4 = j) : cnt (pu σ (iS s) j v) s n m :=
  ⟨by rw [pu_puR, puR_self, upd_n _ _ _ _ h3]; exact hc.1, by rw [pu_puR, puR_self, upd_n _ _ _ _ h4]; exact hc.2.1, hc.2.2⟩
theorem setl_cnt {σ : fM} {s n m : Nat} (k : Int32) (hc : cnt σ s n m) (hcr : crd σ s m) : cnt (setlM σ s n m k) s n (setlN σ s n m k) := by
  unfold setlM setlN
  split
  · exact hc
  · split
    · exact drop_cnt (cnt_pu ((setlZ_frm k hc hcr).cnt (cnt_pu hc 8 _ (by decide) (by decide))) 5 _ (by decide) (by decide))
    · exact hc
theorem setl_O {σ : fM} {s n m : Nat} (k : Int32) (hc : cnt σ s n m) (hcr : crd σ s m) {i j : Nat} (hi : i < 6) (hj : ¬ j = 2) : (setlM σ s n m k).1 (iO s i) j = σ.1 (iO s i) j := by
  unfold setlM
  split
  · rfl
  · split
    · rw [drop_O _ _ _ _ hi hc.2.2.2, pu_ne _ (iO_S s i s hi), (setlZ_frm k hc hcr).n2 _ _ hj, pu_ne _ (iO_S s i s hi)]
    · rfl
theorem oNote_01 (f : Nat → Int32) (w : Int32) (j : Nat) (h : j < 5) : oNote f w j = f j := by
  unfold oNote
  split <;> split <;> simp only [upd] <;> repeat rw [if_neg (by omega)]
theorem kept_01 (σ : fM) (s : Nat) (k : Int32) (i j : Nat) (h : j < 5) : kept σ s k i j = σ.1 (iO s i) j := by
  unfold kept
  split
  · rfl
  · exact oNote_01 _ _ _ h
/-- the memory behind a branch, and what is answered -/
def runM (σ : fM) (s n m : Nat) (a k : Int32) : fM := learnM (setF (setlM (fore σ s n a) s n m k) (iO s) (kept (setlM (fore σ s n a) s n m k) s k) n) s n a k
def runV (σ : fM) (s n : Nat) (a k : Int32) : Int32 := setlV (fore σ s n a) s n k
theorem keep_cnt {σ : fM} {s n m : Nat} (k : Int32) (hc : cnt σ s n m) : cnt (setF σ (iO s) (kept σ s k) n) s n m := by
  have hn6 := hc.2.2.1
  have e : (setF σ (iO s) (kept σ s k) n).1 (iS s) = σ.1 (iS s) := setF_ne (fun i hi => iO_S s i s (by omega))
  exact ⟨by rw [e]; exact hc.1, by rw [e]; exact hc.2.1, hc.2.2⟩

set_option maxRecDepth 100000 in
set_option maxHeartbeats 4000000 in
theorem ct_X3_runBranch {l : Launch} {X : fX} {σ : fM} {s n m : Nat} (hs : s < 6) (hc : cnt σ s n m) (hcr : crd σ s m) (hg : ∀ i, i < n → oGood (σ.1 (iO s i))) {a k : Int32} : Ct l X yX3_runBranch cX3_runBranch 4 (some .int) 4 [ra X (iS s), .int a, .int k] σ (some (.int (runV σ s n a k))) (runM σ s n m a k) := by
  refine Ct.of RX3 rfl (by decide) (Nat.le_of_ble_eq_true rfl) ?_
  intro x hL h hr
  refine g_sub [(0, ra X (iS s)), (1, .int a), (2, .int k)] ⟨rfl, rfl, rfl, trivial⟩ ?_
  have hn6 := hc.2.2.1
  have hc2 := setl_cnt k (fore_cnt a hc) (fore_crd a hc.2.2.1 hc.2.2.2 hcr)
  have hg3 : ∀ i, i < n → oGood ((setF (setlM (fore σ s n a) s n m k) (iO s) (kept (setlM (fore σ s n a) s n m k) s k) n).1 (iO s i)) := fun i hi => by
    have e : ∀ j, j < 2 → (setF (setlM (fore σ s n a) s n m k) (iO s) (kept (setlM (fore σ s n a) s n m k) s k) n).1 (iO s i) j = σ.1 (iO s i) j := fun j hj => by
      rw [setF_at (iO_inj s) hi, kept_01 _ _ _ _ _ (by omega), setl_O k (fore_cnt a hc) (fore_crd a hc.2.2.1 hc.2.2.2 hcr) (by omega) (by omega), fore_O a hi, foR2_n _ _ _ _ _ _ (by omega) (by omega)]
    exact oGood_cg (e 0 (by decide)) (e 1 (by decide)) (hg i hi)
  refine g_aload_n h dX3_runBranch_0 rfl ?_
  refine g_iload_n h dX3_runBranch_1 rfl ?_
  refine cl3_117 h (by omega) (ct_X3_foretell hs hc hg) rfl dX3_runBranch_2 rfl (Nat.le_of_ble_eq_true rfl) (by decide) ?_
  refine g_aload_n h dX3_runBranch_5 rfl ?_
  refine g_iload_n h dX3_runBranch_6 rfl ?_
  refine cl3_121 h (by omega) (ct_X3_settleBets hs (fore_cnt a hc) (fore_crd a hc.2.2.1 hc.2.2.2 hcr)) rfl dX3_runBranch_7 rfl (Nat.le_of_ble_eq_true rfl) (by decide) ?_
  refine g_istore_n h dX3_runBranch_10 (by rw [hL]; decide) ?_
  refine g_aload_n h dX3_runBranch_11 rfl ?_
  refine g_iload_n h dX3_runBranch_12 rfl ?_
  refine cl3_125 h (by omega) (ct_X3_keepRecords hs hc2) rfl dX3_runBranch_13 rfl (Nat.le_of_ble_eq_true rfl) (by decide) ?_
  refine g_aload_n h dX3_runBranch_16 rfl ?_
  refine g_iload_n h dX3_runBranch_17 rfl ?_
  refine g_iload_n h dX3_runBranch_18 rfl ?_
  refine cl3_128 h (by omega) (ct_X3_learnFrom hs (keep_cnt k hc2) hg3) rfl dX3_runBranch_19 rfl (Nat.le_of_ble_eq_true rfl) (by decide) ?_
  refine g_iload_n h dX3_runBranch_22 rfl ?_
  exact g_iret h hr dX3_runBranch_23 rfl rfl

def addM (σ : fM) (s c e m : Nat) (v : Int32) : fM :=
  let τ1 := pu σ (iO s c) 2 (σ.1 (iO s c) 2 - v)
  let τ2 := pu τ1 (iO s e) 2 (τ1.1 (iO s e) 2 + v)
  pu (pu (pu (pu τ2 (iL s m) 0 (nI c)) (iL s m) 1 (nI e)) (iL s m) 2 v) (iS s) 4 (nI (m + 1))

set_option maxRecDepth 100000 in
set_option maxHeartbeats 4000000 in
theorem ct_X3_addLoan {l : Launch} {X : fX} {σ : fM} {s n m : Nat} (hs : s < 6) (hc : cnt σ s n m) {c e : Nat} (hc6 : c < 6) (he6 : e < 6) (hm7 : m < 8) {v : Int32} : Ct l X yX3_addLoan cX3_addLoan 5 (some .int) 0 [ra X (iS s), .int (nI c), .int (nI e), .int v] σ (some (.int (nI m))) (addM σ s c e m v) := by
  refine Ct.of RX3 rfl (by decide) (Nat.le_of_ble_eq_true rfl) ?_
  intro x hL h hr
  refine g_sub [(0, ra X (iS s)), (1, .int (nI c)), (2, .int (nI e)), (3, .int v)] ⟨rfl, rfl, rfl, rfl, trivial⟩ ?_
  obtain ⟨hn, hm, hn6, hm8⟩ := id hc
  refine g_aload_n h dX3_addLoan_0 rfl ?_
  refine gf3_11 h (by omega) dX3_addLoan_1 ?_
  refine g_iload_n h dX3_addLoan_4 rfl ?_
  refine g_aaldO h (by omega) rfl hc6 dX3_addLoan_5 ?_
  refine g_dup h dX3_addLoan_6 rfl ?_
  refine gf3_85 h (by omega) (by omega) dX3_addLoan_7 ?_
  refine g_iload_n h dX3_addLoan_10 rfl ?_
  refine g_isub h dX3_addLoan_11 ?_
  refine gp3_85 h (by omega) (by omega) dX3_addLoan_12 ?_
  refine g_aload_n h dX3_addLoan_15 rfl ?_
  refine gf3_11 h (by omega) dX3_addLoan_16 ?_
  refine g_iload_n h dX3_addLoan_19 rfl ?_
  refine g_aaldO h (by omega) rfl he6 dX3_addLoan_20 ?_
  refine g_dup h dX3_addLoan_21 rfl ?_
  refine gf3_85 h (by omega) (by omega) dX3_addLoan_22 ?_
  refine g_iload_n h dX3_addLoan_25 rfl ?_
  refine g_iadd h dX3_addLoan_26 ?_
  refine gp3_85 h (by omega) (by omega) dX3_addLoan_27 ?_
  refine g_aload_n h dX3_addLoan_30 rfl ?_
  refine gf3_40 h (by omega) dX3_addLoan_31 ?_
  refine g_istore h dX3_addLoan_34 (by rw [hL]; decide) ?_
  refine g_aload_n h dX3_addLoan_36 rfl ?_
  refine gf3_20 h (by omega) dX3_addLoan_37 ?_
  refine g_iload h dX3_addLoan_40 rfl ?_
  refine g_aaldL h (by omega) (by simp only [pu_ne _ (iO_S s c s hc6).symm, pu_ne _ (iO_S s e s he6).symm, pu_ne _ (iL_S s m s hm7).symm]; exact hm) hm7 dX3_addLoan_42 ?_
  refine g_iload_n h dX3_addLoan_43 rfl ?_
  refine gp3_88 h (by omega) (by omega) dX3_addLoan_44 ?_
  refine g_aload_n h dX3_addLoan_47 rfl ?_
  refine gf3_20 h (by omega) dX3_addLoan_48 ?_
  refine g_iload h dX3_addLoan_51 rfl ?_
  refine g_aaldL h (by omega) (by simp only [pu_ne _ (iO_S s c s hc6).symm, pu_ne _ (iO_S s e s he6).symm, pu_ne _ (iL_S s m s hm7).symm]; exact hm) hm7 dX3_addLoan_53 ?_
  refine g_iload_n h dX3_addLoan_54 rfl ?_
  refine gp3_91 h (by omega) (by omega) dX3_addLoan_55 ?_
  refine g_aload_n h dX3_addLoan_58 rfl ?_
  refine gf3_20 h (by omega) dX3_addLoan_59 ?_
  refine g_iload h dX3_addLoan_62 rfl ?_
  refine g_aaldL h (by omega) (by simp only [pu_ne _ (iO_S s c s hc6).symm, pu_ne _ (iO_S s e s he6).symm, pu_ne _ (iL_S s m s hm7).symm]; exact hm) hm7 dX3_addLoan_64 ?_
  refine g_iload_n h dX3_addLoan_65 rfl ?_
  refine gp3_94 h (by omega) (by omega) dX3_addLoan_66 ?_
  refine g_aload_n h dX3_addLoan_69 rfl ?_
  refine g_iload h dX3_addLoan_70 rfl ?_
  refine g_iconst (v := 1) h dX3_addLoan_72 (by decide) ?_
  refine g_iadd h dX3_addLoan_73 ?_
  refine gp3_40 h (by omega) dX3_addLoan_74 ?_
  refine g_iload h dX3_addLoan_77 rfl ?_
  exact g_iret h hr dX3_addLoan_79 (by simp only [pu_ne _ (iO_S s c s hc6).symm, pu_ne _ (iO_S s e s he6).symm, pu_ne _ (iL_S s m s hm7).symm]; exact hm) (by unfold addM; dsimp only; simp only [pu_ne _ (iO_S s c s hc6).symm, pu_ne _ (iO_S s e s he6).symm, pu_ne _ (iL_S s m s hm7).symm, hm, nI_succ])
end
section
/-! copies of states, the history of changes -/
def cpyO (s s2 : Nat) (σ : fM) : Nat → fM
  | 0 => σ
  | i + 1 => let τ := cpyO s s2 σ i
    puR (puR τ (iO s i) (oCopy (τ.1 (iO s2 i)) (τ.1 (iO s i)))) (iT s i) (cpy (τ.1 (iT s2 i)) (τ.1 (iT s i)) 32)
def cpyL (s s2 : Nat) (σ : fM) : Nat → fM
  | 0 => σ
  | i + 1 => let τ := cpyL s s2 σ i
    puR τ (iL s i) (lCopy (τ.1 (iL s2 i)) (τ.1 (iL s i)))
theorem cpyO_ne {s s2 : Nat} {σ : fM} {k : Nat} : ∀ {i : Nat}, (∀ j, j < i → iO s j ≠ k ∧ iT s j ≠ k) → (cpyO s s2 σ i).1 k = σ.1 k
  | 0, _ => rfl
  | i + 1, h => by
    have h1 := h i (Nat.lt_succ_self i)
    show (puR (puR (cpyO s s2 σ i) _ _) _ _).1 k = _
    rw [puR_ne _ h1.2.symm, puR_ne _ h1.1.symm]
    exact cpyO_ne (fun j hj => h j (Nat.lt_succ_of_lt hj))
theorem cpyL_ne {s s2 : Nat} {σ : fM} {k : Nat} : ∀ {i : Nat}, (∀ j, j < i → iL s j ≠ k) → (cpyL s s2 σ i).1 k = σ.1 k
  | 0, _ => rfl
  | i + 1, h => by
    have h1 := h i (Nat.lt_succ_self i)
    show (puR (cpyL s s2 σ i) _ _).1 k = _
    rw [puR_ne _ h1.symm]
    exact cpyL_ne (fun j hj => h j (Nat.lt_succ_of_lt hj))
def copyM (σ : fM) (s s2 n m : Nat) : fM :=
  let σ1 := cpyO s s2 (pu σ (iS s) 3 (σ.1 (iS s2) 3)) n
  let σ2 := cpyL s s2 (pu σ1 (iS s) 4 (σ1.1 (iS s2) 4)) m
  let σ3 := puR σ2 (iSet s) (cpy (σ2.1 (iSet s2)) (σ2.1 (iSet s)) 3)
  let σ4 := pu σ3 (iS s) 5 (σ3.1 (iS s2) 5)
  let σ5 := pu σ4 (iS s) 6 (σ4.1 (iS s2) 6)
  let σ6 := pu σ5 (iS s) 7 (σ5.1 (iS s2) 7)
  let σ7 := pu σ6 (iS s) 8 (σ6.1 (iS s2) 8)
  puL σ7 (iS s) (σ7.2 (iS s2))

set_option maxRecDepth 100000 in
set_option maxHeartbeats 4000000 in
theorem ct_X3_copyFrom {l : Launch} {X : fX} {σ : fM} {s s2 n m : Nat} (hs : s < 6) (hs2 : s2 < 6) (hss : s2 ≠ s) (hc : cnt σ s2 n m) : Ct l X yX3_copyFrom cX3_copyFrom 3 none 2 [ra X (iS s), ra X (iS s2)] σ none (copyM σ s s2 n m) := by
  refine Ct.of RX3 rfl (by decide) (Nat.le_of_ble_eq_true rfl) ?_
  intro x hL h hr
  refine g_sub [(0, ra X (iS s)), (1, ra X (iS s2))] ⟨rfl, rfl, trivial⟩ ?_
  obtain ⟨hn, hm, hn6, hm8⟩ := id hc
  have LOOP2 : ∀ (q i : Nat), i + q = m → G x X (cpyL s s2 (pu (cpyO s s2 (pu σ (iS s) 3 (σ.1 (iS s2) 3)) n) (iS s) 4 ((cpyO s s2 (pu σ (iS s) 3 (σ.1 (iS s2) 3)) n).1 (iS s2) 4)) i) [(0, ra X (iS s)), (1, ra X (iS s2)), (2, .int (nI i))] [] 49 := by
    intro q
    induction q with
    | zero =>
      intro i hi 
      have hie : i = m := by omega
      rw [hie]
      have hmi : (cpyL s s2 (pu (cpyO s s2 (pu σ (iS s) 3 (σ.1 (iS s2) 3)) n) (iS s) 4 ((cpyO s s2 (pu σ (iS s) 3 (σ.1 (iS s2) 3)) n).1 (iS s2) 4)) m).1 (iS s) 4 = nI m := by rw [cpyL_ne (fun j hj => iL_S s j s (by omega)), pu_puR, puR_self, upd_s, cpyO_ne (fun j hj => ⟨iO_S s j s2 (by omega), iT_S s j s2 (by omega)⟩), pu_ne _ (by unfold iS; omega)]; exact hm
      refine g_iload_n h dX3_copyFrom_49 rfl ?_
      refine g_aload_n h dX3_copyFrom_50 rfl ?_
      refine gf3_40 h (by omega) dX3_copyFrom_51 ?_
      refine g_icge h 78 dX3_copyFrom_54 (by decide) (fun c54 => ?_) (fun c54 => absurd (by rw [hmi]; exact Int32.le_refl _) c54)
      refine g_aload_n h dX3_copyFrom_78 rfl ?_
      refine gf3_25 h (by omega) dX3_copyFrom_79 ?_
      refine g_iconst (v := 0) h dX3_copyFrom_82 (by decide) ?_
      refine g_aload_n h dX3_copyFrom_83 rfl ?_
      refine gf3_25 h (by omega) dX3_copyFrom_84 ?_
      refine g_iconst (v := 0) h dX3_copyFrom_87 (by decide) ?_
      refine g_iconst (v := 3) h dX3_copyFrom_88 (by decide) ?_
      refine g_copy h (k0 := iSet s2) (k1 := iSet s) (n := 3) (lw_in 240 (by decide +kernel) rfl) (iSet_lt hs2) (iSet_lt hs) (enc_Set X hs2) (enc_Set X hs) nI_0.symm nI_0.symm (by decide) (Nat.le_refl _) (Nat.le_refl _) (by decide) dX3_copyFrom_89 (by decide) (Nat.le_of_ble_eq_true rfl) ?_
      refine g_aload_n h dX3_copyFrom_92 rfl ?_
      refine g_aload_n h dX3_copyFrom_93 rfl ?_
      refine gf3_52 h (by omega) dX3_copyFrom_94 ?_
      refine gp3_52 h (by omega) dX3_copyFrom_97 ?_
      refine g_aload_n h dX3_copyFrom_100 rfl ?_
      refine g_aload_n h dX3_copyFrom_101 rfl ?_
      refine gf3_55 h (by omega) dX3_copyFrom_102 ?_
      refine gp3_55 h (by omega) dX3_copyFrom_105 ?_
      refine g_aload_n h dX3_copyFrom_108 rfl ?_
      refine g_aload_n h dX3_copyFrom_109 rfl ?_
      refine gf3_58 h (by omega) dX3_copyFrom_110 ?_
      refine gp3_58 h (by omega) dX3_copyFrom_113 ?_
      refine g_aload_n h dX3_copyFrom_116 rfl ?_
      refine g_aload_n h dX3_copyFrom_117 rfl ?_
      refine gf3_61 h (by omega) dX3_copyFrom_118 ?_
      refine gp3_61 h (by omega) dX3_copyFrom_121 ?_
      refine g_aload_n h dX3_copyFrom_124 rfl ?_
      refine g_aload_n h dX3_copyFrom_125 rfl ?_
      refine gf3_64 h (by omega) dX3_copyFrom_126 ?_
      refine gp3_64 h (by omega) dX3_copyFrom_129 ?_
      exact g_vret h hr dX3_copyFrom_132 rfl
    | succ q ih =>
      intro i hi 
      have hlt : i < m := by omega
      have hmi : (cpyL s s2 (pu (cpyO s s2 (pu σ (iS s) 3 (σ.1 (iS s2) 3)) n) (iS s) 4 ((cpyO s s2 (pu σ (iS s) 3 (σ.1 (iS s2) 3)) n).1 (iS s2) 4)) i).1 (iS s) 4 = nI m := by rw [cpyL_ne (fun j hj => iL_S s j s (by omega)), pu_puR, puR_self, upd_s, cpyO_ne (fun j hj => ⟨iO_S s j s2 (by omega), iT_S s j s2 (by omega)⟩), pu_ne _ (by unfold iS; omega)]; exact hm
      generalize hτ : (cpyL s s2 (pu (cpyO s s2 (pu σ (iS s) 3 (σ.1 (iS s2) 3)) n) (iS s) 4 ((cpyO s s2 (pu σ (iS s) 3 (σ.1 (iS s2) 3)) n).1 (iS s2) 4)) i) = τ at hmi ⊢
      refine g_iload_n h dX3_copyFrom_49 rfl ?_
      refine g_aload_n h dX3_copyFrom_50 rfl ?_
      refine gf3_40 h (by omega) dX3_copyFrom_51 ?_
      refine g_icge h 78 dX3_copyFrom_54 (by decide) (fun c54 => absurd c54 (by rw [hmi]; exact nI_ge hlt (by omega))) (fun c54 => ?_)
      refine g_aload_n h dX3_copyFrom_57 rfl ?_
      refine gf3_20 h (by omega) dX3_copyFrom_58 ?_
      refine g_iload_n h dX3_copyFrom_61 rfl ?_
      refine g_aaldL h (by omega) rfl (by omega) dX3_copyFrom_62 ?_
      refine g_aload_n h dX3_copyFrom_63 rfl ?_
      refine gf3_20 h (by omega) dX3_copyFrom_64 ?_
      refine g_iload_n h dX3_copyFrom_67 rfl ?_
      refine g_aaldL h (by omega) rfl (by omega) dX3_copyFrom_68 ?_
      refine cl3_43 h hs (by omega) (ct_X0_copyFrom hs (by omega) hs2 (by omega) (by unfold iL; omega)) rfl dX3_copyFrom_69 rfl (Nat.le_of_ble_eq_true rfl) (by decide) ?_
      refine g_iincN h dX3_copyFrom_72 rfl (by rw [hL]; decide) ?_
      refine g_goto h 49 dX3_copyFrom_75 (by decide) ?_
      exact g_mem (cpyL s s2 (pu (cpyO s s2 (pu σ (iS s) 3 (σ.1 (iS s2) 3)) n) (iS s) 4 ((cpyO s s2 (pu σ (iS s) 3 (σ.1 (iS s2) 3)) n).1 (iS s2) 4)) (i + 1)) (by rw [← hτ]; rfl) (g_sub [(0, ra X (iS s)), (1, ra X (iS s2)), (2, .int (nI (i + 1)))] ⟨rfl, rfl, rfl, trivial⟩ (ih (i + 1) (by omega)))
  have LOOP1 : ∀ (q i : Nat), i + q = n → G x X (cpyO s s2 (pu σ (iS s) 3 (σ.1 (iS s2) 3)) i) [(0, ra X (iS s)), (1, ra X (iS s2)), (2, .int (nI i))] [] 10 := by
    intro q
    induction q with
    | zero =>
      intro i hi 
      have hie : i = n := by omega
      rw [hie]
      have hni : (cpyO s s2 (pu σ (iS s) 3 (σ.1 (iS s2) 3)) n).1 (iS s) 3 = nI n := by rw [cpyO_ne (fun j hj => ⟨iO_S s j s (by omega), iT_S s j s (by omega)⟩), pu_puR, puR_self, upd_s]; exact hn
      refine g_iload_n h dX3_copyFrom_10 rfl ?_
      refine g_aload_n h dX3_copyFrom_11 rfl ?_
      refine gf3_32 h (by omega) dX3_copyFrom_12 ?_
      refine g_icge h 39 dX3_copyFrom_15 (by decide) (fun c15 => ?_) (fun c15 => absurd (by rw [hni]; exact Int32.le_refl _) c15)
      refine g_aload_n h dX3_copyFrom_39 rfl ?_
      refine g_aload_n h dX3_copyFrom_40 rfl ?_
      refine gf3_40 h (by omega) dX3_copyFrom_41 ?_
      refine gp3_40 h (by omega) dX3_copyFrom_44 ?_
      refine g_iconst (v := 0) h dX3_copyFrom_47 (by decide) ?_
      refine g_istore_n h dX3_copyFrom_48 (by rw [hL]; decide) ?_
      refine g_sub [(0, ra X (iS s)), (1, ra X (iS s2)), (2, .int (nI 0))] ⟨rfl, rfl, lk_0, trivial⟩ ?_
      exact LOOP2 m 0 (by omega)
    | succ q ih =>
      intro i hi 
      have hlt : i < n := by omega
      have hni : (cpyO s s2 (pu σ (iS s) 3 (σ.1 (iS s2) 3)) i).1 (iS s) 3 = nI n := by rw [cpyO_ne (fun j hj => ⟨iO_S s j s (by omega), iT_S s j s (by omega)⟩), pu_puR, puR_self, upd_s]; exact hn
      generalize hτ : (cpyO s s2 (pu σ (iS s) 3 (σ.1 (iS s2) 3)) i) = τ at hni ⊢
      refine g_iload_n h dX3_copyFrom_10 rfl ?_
      refine g_aload_n h dX3_copyFrom_11 rfl ?_
      refine gf3_32 h (by omega) dX3_copyFrom_12 ?_
      refine g_icge h 39 dX3_copyFrom_15 (by decide) (fun c15 => absurd c15 (by rw [hni]; exact nI_ge hlt (by omega))) (fun c15 => ?_)
      refine g_aload_n h dX3_copyFrom_18 rfl ?_
      refine gf3_11 h (by omega) dX3_copyFrom_19 ?_
      refine g_iload_n h dX3_copyFrom_22 rfl ?_
      refine g_aaldO h (by omega) rfl (by omega) dX3_copyFrom_23 ?_
      refine g_aload_n h dX3_copyFrom_24 rfl ?_
      refine gf3_11 h (by omega) dX3_copyFrom_25 ?_
      refine g_iload_n h dX3_copyFrom_28 rfl ?_
      refine g_aaldO h (by omega) rfl (by omega) dX3_copyFrom_29 ?_
      refine cl3_36 h hs (by omega) (ct_X1_copyFrom hs (by omega) hs2 (by omega) (by unfold iO; omega)) rfl dX3_copyFrom_30 rfl (Nat.le_of_ble_eq_true rfl) (by decide) ?_
      refine g_iincN h dX3_copyFrom_33 rfl (by rw [hL]; decide) ?_
      refine g_goto h 10 dX3_copyFrom_36 (by decide) ?_
      exact g_mem (cpyO s s2 (pu σ (iS s) 3 (σ.1 (iS s2) 3)) (i + 1)) (by rw [← hτ]; rfl) (g_sub [(0, ra X (iS s)), (1, ra X (iS s2)), (2, .int (nI (i + 1)))] ⟨rfl, rfl, rfl, trivial⟩ (ih (i + 1) (by omega)))
  refine g_aload_n h dX3_copyFrom_0 rfl ?_
  refine g_aload_n h dX3_copyFrom_1 rfl ?_
  refine gf3_32 h (by omega) dX3_copyFrom_2 ?_
  refine gp3_32 h (by omega) dX3_copyFrom_5 ?_
  refine g_iconst (v := 0) h dX3_copyFrom_8 (by decide) ?_
  refine g_istore_n h dX3_copyFrom_9 (by rw [hL]; decide) ?_
  refine g_sub [(0, ra X (iS s)), (1, ra X (iS s2)), (2, .int (nI 0))] ⟨rfl, rfl, lk_0, trivial⟩ ?_
  exact LOOP1 n 0 (by omega)

/-- the past: where it begins, how many states it holds -/
def pst (σ : fM) (f z : Nat) : Prop := σ.1 1 1 = nI f ∧ σ.1 1 2 = nI z ∧ f < 4 ∧ z ≤ 4
theorem iS_1 (s : Nat) : iS s ≠ 1 := by unfold iS; omega
theorem copyM_ne {σ : fM} {s s2 n m k : Nat} (hn : n ≤ 6) (hm : m ≤ 8) (h : k < 6 + 24 * s ∨ 30 + 24 * s ≤ k) : (copyM σ s s2 n m).1 k = σ.1 k := by
  have e1 : k ≠ iS s := by unfold iS; omega
  have e2 : k ≠ iSet s := by unfold iSet; omega
  unfold copyM
  dsimp only
  show (pu _ (iS s) 8 _).1 k = _
  rw [pu_ne _ e1, pu_ne _ e1, pu_ne _ e1, pu_ne _ e1, puR_ne _ e2, cpyL_ne (fun j hj => by unfold iL; omega), pu_ne _ e1, cpyO_ne (fun j hj => by unfold iO iT; omega), pu_ne _ e1]
theorem rem4 {z : Nat} (hz : z < 2 ^ 31) : nI z - nI z / 4 * 4 = nI (z % 4) := pk_rem (d := 4) hz (by decide) (by decide)
def keepM (σ : fM) (f z n m : Nat) : fM :=
  let τ := copyM σ (2 + (f + z) % 4) 0 n m
  if z < 4 then pu τ 1 2 (nI (z + 1)) else pu τ 1 1 (nI ((f + 1) % 4))

set_option maxRecDepth 100000 in
set_option maxHeartbeats 4000000 in
theorem ct_X2_keep {l : Launch} {X : fX} {σ : fM} {f z n m : Nat} (hp : pst σ f z) (hc : cnt σ 0 n m) : Ct l X yX2_keep cX2_keep 2 none 3 [ra X 1, ra X (iS 0)] σ none (keepM σ f z n m) := by
  refine Ct.of RX2 rfl (by decide) (Nat.le_of_ble_eq_true rfl) ?_
  intro x hL h hr
  refine g_sub [(0, ra X 1), (1, ra X (iS 0))] ⟨rfl, rfl, trivial⟩ ?_
  obtain ⟨hf, hz, hf4, hz4⟩ := id hp
  obtain ⟨hn, hm, hn6, hm8⟩ := id hc
  refine g_aload_n h dX2_keep_0 rfl ?_
  refine gf2_11 h  dX2_keep_1 ?_
  refine g_aload_n h dX2_keep_4 rfl ?_
  refine gf2_18 h  dX2_keep_5 ?_
  refine g_aload_n h dX2_keep_8 rfl ?_
  refine gf2_22 h  dX2_keep_9 ?_
  refine g_iadd h dX2_keep_12 ?_
  refine g_iconst (v := 4) h dX2_keep_13 (by decide) ?_
  refine g_irem h dX2_keep_14 (by decide) ?_
  refine g_aaldN (f := fun j => iS (2 + j)) h (k := 2) (nX_lt (by decide)) (enc_2 X) rfl (by rw [hf, hz, nI_add]; exact rem4 (by omega)) (by omega) (by decide) dX2_keep_15 ?_
  refine g_aload_n h dX2_keep_16 rfl ?_
  refine cl2_25 h (by omega) (ct_X3_copyFrom (by omega) (by decide) (by omega) hc) rfl dX2_keep_17 rfl (Nat.le_of_ble_eq_true rfl) (by decide) ?_
  refine g_aload_n h dX2_keep_20 rfl ?_
  refine gf2_22 h  dX2_keep_21 ?_
  refine g_iconst (v := 4) h dX2_keep_24 (by decide) ?_
  refine g_icge h 41 dX2_keep_25 (by decide) (fun c25 => ?_) (fun c25 => ?_)
  · simp only [copyM_ne hn6 hm8 (show 1 < 6 + 24 * (2 + (f + z) % 4) ∨ 30 + 24 * (2 + (f + z) % 4) ≤ 1 by omega), hz] at c25
    refine g_aload_n h dX2_keep_41 rfl ?_
    refine g_aload_n h dX2_keep_42 rfl ?_
    refine gf2_18 h  dX2_keep_43 ?_
    refine g_iconst (v := 1) h dX2_keep_46 (by decide) ?_
    refine g_iadd h dX2_keep_47 ?_
    refine g_iconst (v := 4) h dX2_keep_48 (by decide) ?_
    refine g_irem h dX2_keep_49 (by decide) ?_
    refine gp2_18 h  dX2_keep_50 ?_
    exact g_vret h hr dX2_keep_53 (by have e := copyM_ne (σ := σ) (s2 := 0) hn6 hm8 (show 1 < 6 + 24 * (2 + (f + z) % 4) ∨ 30 + 24 * (2 + (f + z) % 4) ≤ 1 by omega); unfold keepM; dsimp only; first | (rw [if_pos (Nat.not_le.mp fun q => c25 (nI_le (b := z) q (by omega))), e, hz, nI_1]; done) | (rw [if_neg (fun q => absurd c25 (nI_ge q (by decide))), e, hf, nI_1, rem4 (by omega)]))
  · simp only [copyM_ne hn6 hm8 (show 1 < 6 + 24 * (2 + (f + z) % 4) ∨ 30 + 24 * (2 + (f + z) % 4) ≤ 1 by omega), hz] at c25
    refine g_aload_n h dX2_keep_28 rfl ?_
    refine g_dup h dX2_keep_29 rfl ?_
    refine gf2_22 h  dX2_keep_30 ?_
    refine g_iconst (v := 1) h dX2_keep_33 (by decide) ?_
    refine g_iadd h dX2_keep_34 ?_
    refine gp2_22 h  dX2_keep_35 ?_
    refine g_goto h 53 dX2_keep_38 (by decide) ?_
    exact g_vret h hr dX2_keep_53 (by have e := copyM_ne (σ := σ) (s2 := 0) hn6 hm8 (show 1 < 6 + 24 * (2 + (f + z) % 4) ∨ 30 + 24 * (2 + (f + z) % 4) ≤ 1 by omega); unfold keepM; dsimp only; first | (rw [if_pos (Nat.not_le.mp fun q => c25 (nI_le (b := z) q (by omega))), e, hz, nI_1]; done) | (rw [if_neg (fun q => absurd c25 (nI_ge q (by decide))), e, hf, nI_1, rem4 (by omega)]))
end
section
/-! good states: what a copy, a branch keeps of them -/
def gst (σ : fM) (s n m : Nat) : Prop := cnt σ s n m ∧ crd σ s m ∧ ∀ i, i < n → oGood (σ.1 (iO s i))
theorem cpyO_O {s s2 : Nat} (hss : s2 ≠ s) (σ : fM) {i : Nat} : ∀ {n : Nat}, i < n → n ≤ 6 → (cpyO s s2 σ n).1 (iO s i) = oCopy (σ.1 (iO s2 i)) (σ.1 (iO s i)) ∧ (cpyO s s2 σ n).1 (iT s i) = cpy (σ.1 (iT s2 i)) (σ.1 (iT s i)) 32
  | 0, h, _ => absurd h (Nat.not_lt_zero _)
  | n + 1, h, h6 => by
    by_cases hi : i = n
    · subst hi
      have e1 : (cpyO s s2 σ i).1 (iO s2 i) = σ.1 (iO s2 i) := cpyO_ne (fun j hj => ⟨by unfold iO; omega, by unfold iO iT; omega⟩)
      have e2 : (cpyO s s2 σ i).1 (iT s2 i) = σ.1 (iT s2 i) := cpyO_ne (fun j hj => ⟨by unfold iO iT; omega, by unfold iT; omega⟩)
      have e3 : (cpyO s s2 σ i).1 (iO s i) = σ.1 (iO s i) := cpyO_ne (fun j hj => ⟨by unfold iO; omega, by unfold iO iT; omega⟩)
      have e4 : (cpyO s s2 σ i).1 (iT s i) = σ.1 (iT s i) := cpyO_ne (fun j hj => ⟨by unfold iO iT; omega, by unfold iT; omega⟩)
      constructor
      · show (puR (puR (cpyO s s2 σ i) _ _) _ _).1 (iO s i) = _
        rw [puR_ne _ (iO_T s i s i), puR_self, e1, e3]
      · show (puR (puR (cpyO s s2 σ i) _ _) _ _).1 (iT s i) = _
        rw [puR_self, e2, e4]
    · obtain ⟨h1, h2⟩ := cpyO_O hss σ (n := n) (by omega : i < n) (by omega)
      constructor
      · show (puR (puR (cpyO s s2 σ n) _ _) _ _).1 (iO s i) = _
        rw [puR_ne _ (iO_T s i s n), puR_ne _ (by unfold iO; omega), h1]
      · show (puR (puR (cpyO s s2 σ n) _ _) _ _).1 (iT s i) = _
        rw [puR_ne _ (by unfold iT; omega), puR_ne _ (iO_T s n s i).symm, h2]
theorem cpyL_L {s s2 : Nat} (hss : s2 ≠ s) (σ : fM) {i : Nat} : ∀ {n : Nat}, i < n → n ≤ 8 → (cpyL s s2 σ n).1 (iL s i) = lCopy (σ.1 (iL s2 i)) (σ.1 (iL s i))
  | 0, h, _ => absurd h (Nat.not_lt_zero _)
  | n + 1, h, h6 => by
    by_cases hi : i = n
    · subst hi
      have e1 : (cpyL s s2 σ i).1 (iL s2 i) = σ.1 (iL s2 i) := cpyL_ne (fun j hj => by unfold iL; omega)
      have e3 : (cpyL s s2 σ i).1 (iL s i) = σ.1 (iL s i) := cpyL_ne (fun j hj => by unfold iL; omega)
      show (puR (cpyL s s2 σ i) _ _).1 (iL s i) = _
      rw [puR_self, e1, e3]
    · show (puR (cpyL s s2 σ n) _ _).1 (iL s i) = _
      rw [puR_ne _ (by unfold iL; omega), cpyL_L hss σ (n := n) (by omega : i < n) (by omega)]
theorem cpyO_2 (s s2 : Nat) (σ : fM) : ∀ n, (cpyO s s2 σ n).2 = σ.2
  | 0 => rfl
  | n + 1 => cpyO_2 s s2 σ n
theorem cpyL_2 (s s2 : Nat) (σ : fM) : ∀ n, (cpyL s s2 σ n).2 = σ.2
  | 0 => rfl
  | n + 1 => cpyL_2 s s2 σ n
section COPY
variable {σ : fM} {s s2 n m : Nat}
theorem copyM_O (hss : s2 ≠ s) (hn : n ≤ 6) (hm : m ≤ 8) {i : Nat} (hi : i < n) : (copyM σ s s2 n m).1 (iO s i) = oCopy (σ.1 (iO s2 i)) (σ.1 (iO s i)) := by
  have e1 := iO_S s i s (by omega)
  have e2 := iO_Set s i s (by omega)
  unfold copyM
  dsimp only
  show (pu _ (iS s) 8 _).1 _ = _
  rw [pu_ne _ e1, pu_ne _ e1, pu_ne _ e1, pu_ne _ e1, puR_ne _ e2, cpyL_ne (fun j hj => iL_O s j s i (by omega) (by omega)), pu_ne _ e1, (cpyO_O hss _ hi hn).1, pu_ne _ e1, pu_ne _ (iO_S s2 i s (by omega))]
theorem copyM_T (hss : s2 ≠ s) (hn : n ≤ 6) (hm : m ≤ 8) {i : Nat} (hi : i < n) : (copyM σ s s2 n m).1 (iT s i) = cpy (σ.1 (iT s2 i)) (σ.1 (iT s i)) 32 := by
  have e1 := iT_S s i s (by omega)
  have e2 := iT_Set s i s (by omega)
  unfold copyM
  dsimp only
  show (pu _ (iS s) 8 _).1 _ = _
  rw [pu_ne _ e1, pu_ne _ e1, pu_ne _ e1, pu_ne _ e1, puR_ne _ e2, cpyL_ne (fun j hj => iL_T s j s i (by omega) (by omega)), pu_ne _ e1, (cpyO_O hss _ hi hn).2, pu_ne _ e1, pu_ne _ (iT_S s2 i s (by omega))]
theorem copyM_L (hss : s2 ≠ s) (hn : n ≤ 6) (hm : m ≤ 8) {i : Nat} (hi : i < m) : (copyM σ s s2 n m).1 (iL s i) = lCopy (σ.1 (iL s2 i)) (σ.1 (iL s i)) := by
  have e1 := iL_S s i s (by omega)
  have e2 := iL_Set s i s (by omega)
  have e3 : ∀ s', (cpyO s s2 (pu σ (iS s) 3 (σ.1 (iS s2) 3)) n).1 (iL s' i) = σ.1 (iL s' i) := fun s' => by
    rw [cpyO_ne (fun j hj => ⟨(iL_O s' i s j (by omega) (by omega)).symm, (iL_T s' i s j (by omega) (by omega)).symm⟩), pu_ne _ (iL_S s' i s (by omega))]
  unfold copyM
  dsimp only
  show (pu _ (iS s) 8 _).1 _ = _
  rw [pu_ne _ e1, pu_ne _ e1, pu_ne _ e1, pu_ne _ e1, puR_ne _ e2, cpyL_L hss _ hi hm, pu_ne _ e1, pu_ne _ (iL_S s2 i s (by omega)), e3, e3]
theorem copyM_Set (hn : n ≤ 6) (hm : m ≤ 8) : (copyM σ s s2 n m).1 (iSet s) = cpy (σ.1 (iSet s2)) (σ.1 (iSet s)) 3 := by
  have e1 := (iS_Set s s).symm
  have e3 : ∀ s', (cpyL s s2 (pu (cpyO s s2 (pu σ (iS s) 3 (σ.1 (iS s2) 3)) n) (iS s) 4 ((cpyO s s2 (pu σ (iS s) 3 (σ.1 (iS s2) 3)) n).1 (iS s2) 4)) m).1 (iSet s') = σ.1 (iSet s') := fun s' => by
    rw [cpyL_ne (fun j hj => iL_Set s j s' (by omega)), pu_ne _ (iS_Set s s').symm, cpyO_ne (fun j hj => ⟨iO_Set s j s' (by omega), iT_Set s j s' (by omega)⟩), pu_ne _ (iS_Set s s').symm]
  unfold copyM
  dsimp only
  show (pu _ (iS s) 8 _).1 _ = _
  rw [pu_ne _ e1, pu_ne _ e1, pu_ne _ e1, pu_ne _ e1, puR_self, e3, e3]
theorem copyM_S (hss : s2 ≠ s) (hn : n ≤ 6) (hm : m ≤ 8) {j : Nat} (h3 : 3 ≤ j) (h8 : j ≤ 8) : (copyM σ s s2 n m).1 (iS s) j = σ.1 (iS s2) j := by
  have ne : iS s2 ≠ iS s := by unfold iS; omega
  have eO : ∀ (τ : fM) (s' : Nat), (cpyO s s2 τ n).1 (iS s') = τ.1 (iS s') := fun τ s' => cpyO_ne (fun j hj => ⟨iO_S s j s' (by omega), iT_S s j s' (by omega)⟩)
  have eL : ∀ (τ : fM) (s' : Nat), (cpyL s s2 τ m).1 (iS s') = τ.1 (iS s') := fun τ s' => cpyL_ne (fun j hj => iL_S s j s' (by omega))
  unfold copyM
  dsimp only
  show (pu _ (iS s) 8 _).1 _ _ = _
  simp only [pu_puR, puR_puR, puR_self, puR_ne _ ne, puR_ne _ (iS_Set s s), puR_ne _ (iS_Set s2 s), eO, eL]
  unfold upd
  rcases (show j = 3 ∨ j = 4 ∨ j = 5 ∨ j = 6 ∨ j = 7 ∨ j = 8 by omega) with rfl | rfl | rfl | rfl | rfl | rfl <;> rfl
theorem copyM_2 : (copyM σ s s2 n m).2 (iS s) = σ.2 (iS s2) := by
  unfold copyM
  dsimp only
  show (if iS s = iS s then _ else _) = _
  rw [if_pos rfl]
  show (cpyL s s2 _ m).2 _ = _
  rw [cpyL_2]
  show (cpyO s s2 _ n).2 _ = _
  rw [cpyO_2]
  rfl
theorem oCopy_j (f g : Nat → Int32) {j : Nat} (h : j < 9) : oCopy f g j = f j := by
  unfold oCopy upd
  rcases (show j = 0 ∨ j = 1 ∨ j = 2 ∨ j = 3 ∨ j = 4 ∨ j = 5 ∨ j = 6 ∨ j = 7 ∨ j = 8 by omega) with rfl | rfl | rfl | rfl | rfl | rfl | rfl | rfl | rfl <;> rfl
theorem lCopy_j (f g : Nat → Int32) {j : Nat} (h : j < 3) : lCopy f g j = f j := by
  unfold lCopy upd
  rcases (show j = 0 ∨ j = 1 ∨ j = 2 by omega) with rfl | rfl | rfl <;> rfl
theorem gst_copy (hss : s2 ≠ s) (h : gst σ s2 n m) : gst (copyM σ s s2 n m) s n m := by
  obtain ⟨hc, hr, hg⟩ := h
  have hn := hc.2.2.1
  have hm := hc.2.2.2
  refine ⟨⟨by rw [copyM_S hss hn hm (by decide) (by decide)]; exact hc.1, by rw [copyM_S hss hn hm (by decide) (by decide)]; exact hc.2.1, hn, hm⟩, fun l hl => ?_, fun i hi => ?_⟩
  · rw [copyM_L hss hn hm hl, lCopy_j _ _ (by decide)]
    exact hr l hl
  · rw [copyM_O hss hn hm hi]
    exact oGood_cg (oCopy_j _ _ (by decide)) (oCopy_j _ _ (by decide)) (hg i hi)
end COPY
/-- the loans that are kept are some of those that were there -/
theorem dropF_L {s : Nat} {σ : fM} {m : Nat} (hm : m ≤ 8) : ∀ l, l ≤ m → (∀ q, l ≤ q → (dropF s (σ, 0) l).1.1 (iL s q) = σ.1 (iL s q)) ∧ ∀ q, q < (dropF s (σ, 0) l).2 → ∃ r, r < l ∧ ∀ j, j < 3 → (dropF s (σ, 0) l).1.1 (iL s q) j = σ.1 (iL s r) j
  | 0, _ => ⟨fun _ _ => rfl, fun q h => absurd h (Nat.not_lt_zero q)⟩
  | l + 1, h => by
    obtain ⟨h1, h2⟩ := dropF_L hm l (by omega)
    have hle := dropF_le s σ l
    show (∀ q, l + 1 ≤ q → (dropStep s l (dropF s (σ, 0) l)).1.1 (iL s q) = _) ∧ ∀ q, q < (dropStep s l (dropF s (σ, 0) l)).2 → ∃ r, r < l + 1 ∧ ∀ j, j < 3 → (dropStep s l (dropF s (σ, 0) l)).1.1 (iL s q) j = _
    generalize dropF s (σ, 0) l = z at h1 h2 hle
    unfold dropStep
    split
    · exact ⟨fun q hq => h1 q (by omega), fun q hq => by obtain ⟨r, hr, e⟩ := h2 q hq; exact ⟨r, by omega, e⟩⟩
    · refine ⟨fun q hq => ?_, fun q hq => ?_⟩
      · show (puR _ _ _).1 _ = _
        rw [puR_ne _ (by unfold iL; omega)]
        exact h1 q (by omega)
      · by_cases hqz : q = z.2
        · subst hqz
          refine ⟨l, by omega, fun j hj => ?_⟩
          show (puR _ _ _).1 _ _ = _
          rw [puR_self, lCopy_j _ _ hj, h1 l (Nat.le_refl l)]
        · have hq' : q < z.2 + 1 := hq
          obtain ⟨r, hr, e⟩ := h2 q (by omega)
          refine ⟨r, by omega, fun j hj => ?_⟩
          show (puR _ _ _).1 _ _ = _
          rw [puR_ne _ (by unfold iL; omega)]
          exact e j hj
theorem drop_L {s : Nat} {σ : fM} {m : Nat} (hm : m ≤ 8) {q : Nat} (hq : q < (dropF s (σ, 0) m).2) : ∃ r, r < m ∧ ∀ j, j < 3 → (dropM σ s m).1 (iL s q) j = σ.1 (iL s r) j := by
  have hle := dropF_le s σ m
  obtain ⟨r, hr, e⟩ := (dropF_L hm m (Nat.le_refl m)).2 q hq
  refine ⟨r, hr, fun j hj => ?_⟩
  unfold dropM
  rw [pu_ne _ (iL_S s q s (by omega))]
  exact e j hj
theorem setl_crd {σ : fM} {s n m : Nat} (k : Int32) (hc : cnt σ s n m) (hcr : crd σ s m) : crd (setlM σ s n m k) s (setlN σ s n m k) := by
  unfold setlM setlN
  split
  · exact hcr
  · split
    · intro q hq
      obtain ⟨r, hr, e⟩ := drop_L hc.2.2.2 hq
      rw [e 0 (by decide)]
      exact crd_S ((setlZ_frm k hc hcr).crd (crd_S hcr hc.2.2.2 _ _)) hc.2.2.2 _ _ r hr
    · exact hcr
/-- how many loans there are behind a branch -/
def runN (σ : fM) (s n m : Nat) (a k : Int32) : Nat := setlN (fore σ s n a) s n m k
theorem learn_ne {σ : fM} {s n : Nat} {a k : Int32} {q : Nat} (h : ∀ i, i < n → iT s i ≠ q) (hS : q ≠ iS s) : (learnM σ s n a k).1 q = σ.1 q := by
  unfold learnM
  show (puR _ _ _).1 q = _
  rw [puR_ne _ hS, setF_ne h]
theorem learn_S {σ : fM} {s n : Nat} {a k : Int32} : (learnM σ s n a k).1 (iS s) = lrnS (σ.1 (iS s)) k := by
  unfold learnM
  show (puR _ _ _).1 (iS s) = _
  rw [puR_self]
theorem gst_run {σ : fM} {s n m : Nat} (a k : Int32) (h : gst σ s n m) : gst (runM σ s n m a k) s n (runN σ s n m a k) := by
  obtain ⟨hc, hr, hg⟩ := h
  have hn := hc.2.2.1
  have hm := hc.2.2.2
  have hc1 := fore_cnt a hc
  have hr1 := fore_crd a hn hm hr
  have hc2 := setl_cnt k hc1 hr1
  have hr2 := setl_crd k hc1 hr1
  have hc3 := keep_cnt k hc2
  have hm2 : runN σ s n m a k ≤ 8 := hc2.2.2.2
  refine ⟨⟨?_, ?_, hn, hm2⟩, fun l hl => ?_, fun i hi => ?_⟩
  · unfold runM
    rw [learn_S]
    show upd (upd _ 6 _) 7 _ 3 = _
    rw [upd_n _ _ _ _ (by decide), upd_n _ _ _ _ (by decide)]
    exact hc3.1
  · unfold runM
    rw [learn_S]
    show upd (upd _ 6 _) 7 _ 4 = _
    rw [upd_n _ _ _ _ (by decide), upd_n _ _ _ _ (by decide)]
    exact hc3.2.1
  · unfold runM
    rw [learn_ne (fun i hi => (iL_T s l s i (by omega) (by omega)).symm) (iL_S s l s (by omega)), setF_ne (fun i hi => (iL_O s l s i (by omega) (by omega)).symm)]
    exact hr2 l hl
  · unfold runM
    rw [learn_ne (fun j hj => (iO_T s i s j).symm) (iO_S s i s (by omega))]
    have e : ∀ j, j < 2 → (setF (setlM (fore σ s n a) s n m k) (iO s) (kept (setlM (fore σ s n a) s n m k) s k) n).1 (iO s i) j = σ.1 (iO s i) j := fun j hj => by
      rw [setF_at (iO_inj s) hi, kept_01 _ _ _ _ _ (by omega), setl_O k hc1 hr1 (by omega) (by omega), fore_O a hi, foR2_n _ _ _ _ _ _ (by omega) (by omega)]
    exact oGood_cg (e 0 (by decide)) (e 1 (by decide)) (hg i hi)
end
section
/-! the root's calls -/
section ST
variable {l : Launch} {x : fC} {X : fX} {σ : fM} {L : List (Nat × Value)} {st : List Value} {pc : Nat} {cc : ByteArray} {own : String} {d : Nat}
theorem g_tiL (h : Ok l x X cc own d) {i : Int32} {j : Nat} (hi : i = nI j) (hj : j < 3) (hd : decode cc pc = .ok (.iaload, 1)) (k : G x X σ L (.int (if j = 0 then 1 else 0) :: st) (pc + 1)) : G x X σ L (.int i :: .ref (X.2.2.2.1 0) :: st) pc := fun H locs ls hP hS hl => by
  subst hi
  exact va_ti h.hx h.hb h.hZ.1.2 hS (vp_in_nI hj (by decide)) (by rw [nI_clamp (by omega)]) hd (k H locs ls hP hS hl)
theorem g_tiM (h : Ok l x X cc own d) {i : Int32} {j : Nat} (hi : i = nI j) (hj : j < 3) (hd : decode cc pc = .ok (.iaload, 1)) (k : G x X σ L (.int (if j = 2 then 100 else 50) :: st) (pc + 1)) : G x X σ L (.int i :: .ref (X.2.2.2.1 1) :: st) pc := fun H locs ls hP hS hl => by
  subst hi
  exact va_ti h.hx h.hb h.hZ.2.2 hS (vp_in_nI hj (by decide)) (by rw [nI_clamp (by omega)]) hd (k H locs ls hP hS hl)
theorem g_s5_37 (h : Ok l x X cc RX5 d) (hd : decode cc pc = .ok (.getstatic 37, 3)) (k : G x X σ L (.ref (X.2.2.2.1 0) :: st) (pc + 3)) : G x X σ L st pc := fun H locs ls hP hS hl =>
  va_gets h.hx h.hb h.hZ.1.1 hS h.ho (h.hts (.fieldLink RX5 37 "BranchBets" "SETTING_LEAST" "[I") (lw_in 216 (by decide +kernel) rfl)) (fun _ h9 => h9) hd (k H locs ls hP hS hl)
theorem g_s5_41 (h : Ok l x X cc RX5 d) (hd : decode cc pc = .ok (.getstatic 41, 3)) (k : G x X σ L (.ref (X.2.2.2.1 1) :: st) (pc + 3)) : G x X σ L st pc := fun H locs ls hP hS hl =>
  va_gets h.hx h.hb h.hZ.2.1 hS h.ho (h.hts (.fieldLink RX5 41 "BranchBets" "SETTING_MOST" "[I") (lw_in 218 (by decide +kernel) rfl)) (fun _ h9 => h9) hd (k H locs ls hP hS hl)
theorem g_lsw (h : Ok l x X cc own d) {dflt : Int} {ps : Array (Int × Int)} {len : Nat} {a : Int32} {off : Int} (tgt : Nat) (hd : decode cc pc = .ok (.lookupswitch dflt ps, len)) (hp : (ps.toList.zip (ps.toList.drop 1)).all (fun (a, next) => a.1 < next.1) = true) (ho : Op.lookupswitch.offset ps.toList dflt a.toInt = off) (ht : (pc : Int) + off = (tgt : Int)) (k : G x X σ L st tgt) : G x X σ L (.int a :: st) pc := fun H locs ls hP hS hl => lv_lookup h.hx h.hb hd hp ho ht (k H locs ls hP hS hl)
end ST
def wi (v a b : Int32) : Bool := !decide (v < a) && !decide (b < v)
def isA (a : Int32) : Bool := wi a 0 63
def mostN (k : Int32) : Int32 := if k = 0 then 1 else if k = 4 then 0 else 5
def tks (b : Int32) (f : Nat → Int32) : Bool := if b = 0 then decide (f 0 = 0) else !decide (b = 1) || oTab f
theorem wi_of {v a b : Int32} : wi v a b = true ↔ ¬ v < a ∧ ¬ b < v := by simp [wi]
theorem wi_ix {v b : Int32} {n : Nat} (hn : n < 2 ^ 31) (hb : b = nI n) (h : wi v 0 b = true) : ∃ j : Nat, j ≤ n ∧ v = nI j := by
  obtain ⟨h1, h2⟩ := wi_of.mp h
  obtain ⟨j, hj, e⟩ := nI_of h1
  refine ⟨j, ?_, e⟩
  rw [e, hb] at h2
  exact Nat.not_lt.mp (fun q => h2 (nI_lt q hj))
theorem wi_or {v c : Int32} {n : Nat} (hn : n < 2 ^ 30) (hc : c = nI n) (h : wi v 0 (c - 1) = true) : ∃ j : Nat, j < n ∧ v = nI j := by
  subst hc
  cases n with
  | zero =>
    obtain ⟨h1, h2⟩ := wi_of.mp h
    exact absurd (Int32.lt_of_lt_of_le (by decide) (Int32.not_lt.mp h1) : nI 0 - 1 < v) h2
  | succ n =>
    rw [nI_pred] at h
    obtain ⟨j, hj, e⟩ := wi_ix (by omega) rfl h
    exact ⟨j, by omega, e⟩

set_option maxRecDepth 100000 in
set_option maxHeartbeats 4000000 in
theorem ct_X5_isWithin {l : Launch} {X : fX} {σ : fM} {v a b : Int32} : Ct l X yX5_isWithin cX5_isWithin 3 (some .boolean) 0 [.int v, .int a, .int b] σ (some (.int (bi (wi v a b)))) σ := by
  refine Ct.of RX5 rfl (by decide) (Nat.le_of_ble_eq_true rfl) ?_
  intro x hL h hr
  refine g_sub [(0, .int v), (1, .int a), (2, .int b)] ⟨rfl, rfl, rfl, trivial⟩ ?_
  refine g_iload_n h dX5_isWithin_0 rfl ?_
  refine g_iload_n h dX5_isWithin_1 rfl ?_
  refine g_iclt h 14 dX5_isWithin_2 (by decide) (fun c2 => ?_) (fun c2 => ?_)
  · refine g_iconst (v := 0) h dX5_isWithin_14 (by decide) ?_
    exact g_zret h hr (by first | rfl | exact bi_n _) dX5_isWithin_15 (by first | (simp [wi, bi, c2]; done) | (simp_all [wi, bi]; done)) rfl
  · refine g_iload_n h dX5_isWithin_5 rfl ?_
    refine g_iload_n h dX5_isWithin_6 rfl ?_
    refine g_icgt h 14 dX5_isWithin_7 (by decide) (fun c7 => ?_) (fun c7 => ?_)
    · refine g_iconst (v := 0) h dX5_isWithin_14 (by decide) ?_
      exact g_zret h hr (by first | rfl | exact bi_n _) dX5_isWithin_15 (by first | (simp [wi, bi, c2, c7]; done) | (simp_all [wi, bi]; done)) rfl
    · refine g_iconst (v := 1) h dX5_isWithin_10 (by decide) ?_
      refine g_goto h 15 dX5_isWithin_11 (by decide) ?_
      exact g_zret h hr (by first | rfl | exact bi_n _) dX5_isWithin_15 (by first | (simp [wi, bi, c2, c7]; done) | (simp_all [wi, bi]; done)) rfl

set_option maxRecDepth 100000 in
set_option maxHeartbeats 4000000 in
theorem ct_X5_isAddress {l : Launch} {X : fX} {σ : fM} {a : Int32} : Ct l X yX5_isAddress cX5_isAddress 1 (some .boolean) 1 [.int a] σ (some (.int (bi (isA a)))) σ := by
  refine Ct.of RX5 rfl (by decide) (Nat.le_of_ble_eq_true rfl) ?_
  intro x hL h hr
  refine g_sub [(0, .int a)] ⟨rfl, trivial⟩ ?_
  refine g_iload_n h dX5_isAddress_0 rfl ?_
  refine g_iconst (v := 0) h dX5_isAddress_1 (by decide) ?_
  refine g_bipush (v := 63) h dX5_isAddress_2 (by decide) ?_
  refine cl5_33 h (ct_X5_isWithin) rfl dX5_isAddress_4 rfl (Nat.le_of_ble_eq_true rfl) (by decide) ?_
  exact g_zret h hr (by first | rfl | exact bi_n _) dX5_isAddress_7 rfl rfl

set_option maxRecDepth 100000 in
set_option maxHeartbeats 4000000 in
theorem ct_X5_isOracle {l : Launch} {X : fX} {σ : fM} {v : Int32} : Ct l X yX5_isOracle cX5_isOracle 2 (some .boolean) 1 [ra X 0, .int v] σ (some (.int (bi (wi v 0 (σ.1 (iS 0) 3 - 1))))) σ := by
  refine Ct.of RX5 rfl (by decide) (Nat.le_of_ble_eq_true rfl) ?_
  intro x hL h hr
  refine g_sub [(0, ra X 0), (1, .int v)] ⟨rfl, rfl, trivial⟩ ?_
  refine g_iload_n h dX5_isOracle_0 rfl ?_
  refine g_iconst (v := 0) h dX5_isOracle_1 (by decide) ?_
  refine g_aload_n h dX5_isOracle_2 rfl ?_
  refine gf5_10 h  dX5_isOracle_3 ?_
  refine gf5_56 h (by decide) dX5_isOracle_6 ?_
  refine g_iconst (v := 1) h dX5_isOracle_9 (by decide) ?_
  refine g_isub h dX5_isOracle_10 ?_
  refine cl5_33 h (ct_X5_isWithin) rfl dX5_isOracle_11 rfl (Nat.le_of_ble_eq_true rfl) (by decide) ?_
  exact g_zret h hr (by first | rfl | exact bi_n _) dX5_isOracle_14 rfl rfl

set_option maxRecDepth 100000 in
set_option maxHeartbeats 4000000 in
theorem ct_X5_mostNumberOf {l : Launch} {X : fX} {σ : fM} {k : Int32} : Ct l X yX5_mostNumberOf cX5_mostNumberOf 1 (some .int) 0 [.int k] σ (some (.int (mostN k))) σ := by
  refine Ct.of RX5 rfl (by decide) (Nat.le_of_ble_eq_true rfl) ?_
  intro x hL h hr
  refine g_sub [(0, .int k)] ⟨rfl, trivial⟩ ?_
  refine g_iload_n h dX5_mostNumberOf_0 rfl ?_
  refine g_ifne h 6 dX5_mostNumberOf_1 (by decide) (fun c1 => ?_) (fun c1 => ?_)
  · refine g_iload_n h dX5_mostNumberOf_6 rfl ?_
    refine g_iconst (v := 4) h dX5_mostNumberOf_7 (by decide) ?_
    refine g_icne h 15 dX5_mostNumberOf_8 (by decide) (fun c8 => ?_) (fun c8 => ?_)
    · refine g_iconst (v := 5) h dX5_mostNumberOf_15 (by decide) ?_
      exact g_iret h hr dX5_mostNumberOf_16 (by first | (simp [mostN, c1, c8]; done) | (simp_all [mostN]; done)) rfl
    · refine g_iconst (v := 0) h dX5_mostNumberOf_11 (by decide) ?_
      refine g_goto h 16 dX5_mostNumberOf_12 (by decide) ?_
      exact g_iret h hr dX5_mostNumberOf_16 (by first | (simp [mostN, c1, c8]; done) | (simp_all [mostN]; done)) rfl
  · refine g_iconst (v := 1) h dX5_mostNumberOf_4 (by decide) ?_
    exact g_iret h hr dX5_mostNumberOf_5 (by first | (simp [mostN, c1]; done) | (simp_all [mostN]; done)) rfl

set_option maxRecDepth 100000 in
set_option maxHeartbeats 4000000 in
theorem ct_X5_takes {l : Launch} {X : fX} {σ : fM} {s i : Nat} (hs : s < 6) (hi : i < 6) {b : Int32} : Ct l X yX5_takes cX5_takes 2 (some .boolean) 1 [.int b, ra X (iO s i)] σ (some (.int (bi (tks b (σ.1 (iO s i)))))) σ := by
  refine Ct.of RX5 rfl (by decide) (Nat.le_of_ble_eq_true rfl) ?_
  intro x hL h hr
  refine g_sub [(0, .int b), (1, ra X (iO s i))] ⟨rfl, rfl, trivial⟩ ?_
  refine g_iload_n h dX5_takes_0 rfl ?_
  refine g_ifne h 17 dX5_takes_1 (by decide) (fun c1 => ?_) (fun c1 => ?_)
  · refine g_iload_n h dX5_takes_17 rfl ?_
    refine g_iconst (v := 1) h dX5_takes_18 (by decide) ?_
    refine g_icne h 29 dX5_takes_19 (by decide) (fun c19 => ?_) (fun c19 => ?_)
    · refine g_iconst (v := 1) h dX5_takes_29 (by decide) ?_
      refine g_goto h 34 dX5_takes_30 (by decide) ?_
      exact g_zret h hr (by first | rfl | exact bi_n _) dX5_takes_34 (by first | (simp [tks, bi, c1, c19]; done) | (simp_all [tks, bi]; done)) rfl
    · refine g_aload_n h dX5_takes_22 rfl ?_
      refine cl5_161 h (by omega) (by omega) (ct_X1_hasTable (by omega) (by omega)) rfl dX5_takes_23 rfl (Nat.le_of_ble_eq_true rfl) (by decide) ?_
      refine g_ifeqB h 33 dX5_takes_26 (by decide) (fun c26 => ?_) (fun c26 => ?_)
      · refine g_iconst (v := 0) h dX5_takes_33 (by decide) ?_
        exact g_zret h hr (by first | rfl | exact bi_n _) dX5_takes_34 (by first | (simp [tks, bi, c1, c19, c26]; done) | (simp_all [tks, bi]; done)) rfl
      · refine g_iconst (v := 1) h dX5_takes_29 (by decide) ?_
        refine g_goto h 34 dX5_takes_30 (by decide) ?_
        exact g_zret h hr (by first | rfl | exact bi_n _) dX5_takes_34 (by first | (simp [tks, bi, c1, c19, c26]; done) | (simp_all [tks, bi]; done)) rfl
  · refine g_aload_n h dX5_takes_4 rfl ?_
    refine gf5_114 h (by omega) (by omega) dX5_takes_5 ?_
    refine g_ifne h 15 dX5_takes_8 (by decide) (fun c8 => ?_) (fun c8 => ?_)
    · refine g_iconst (v := 0) h dX5_takes_15 (by decide) ?_
      exact g_zret h hr (by first | rfl | exact bi_n _) dX5_takes_16 (by first | (simp [tks, bi, c1, c8]; done) | (simp_all [tks, bi]; done)) rfl
    · refine g_iconst (v := 1) h dX5_takes_11 (by decide) ?_
      refine g_goto h 16 dX5_takes_12 (by decide) ?_
      exact g_zret h hr (by first | rfl | exact bi_n _) dX5_takes_16 (by first | (simp [tks, bi, c1, c8]; done) | (simp_all [tks, bi]; done)) rfl


theorem keepM_ne {σ : fM} {f z n m k : Nat} (hn : n ≤ 6) (hm : m ≤ 8) (h1 : k ≠ 1) (h : k < 54 ∨ 150 ≤ k) : (keepM σ f z n m).1 k = σ.1 k := by
  have h4 : (f + z) % 4 < 4 := Nat.mod_lt _ (by decide)
  unfold keepM
  dsimp only
  split
  · rw [pu_ne _ h1, copyM_ne hn hm (by omega)]
  · rw [pu_ne _ h1, copyM_ne hn hm (by omega)]
theorem gst_keep {σ : fM} {f z n m : Nat} (hg : gst σ 0 n m) : gst (keepM σ f z n m) 0 n m := by
  obtain ⟨⟨hn, hm, hn6, hm8⟩, hr, hgd⟩ := hg
  refine ⟨⟨?_, ?_, hn6, hm8⟩, fun l hl => ?_, fun i hi => ?_⟩
  · rw [keepM_ne hn6 hm8 (iS_1 0) (by decide)]; exact hn
  · rw [keepM_ne hn6 hm8 (iS_1 0) (by decide)]; exact hm
  · rw [keepM_ne hn6 hm8 (by unfold iL; omega) (by unfold iL; omega)]; exact hr l hl
  · rw [keepM_ne hn6 hm8 (by unfold iO; omega) (by unfold iO; omega)]; exact hgd i hi
def ix (v : Int32) : Nat := v.toNatClampNeg
def kBad : Int32 := -1000001
def kNot : Int32 := -1000002
def kLim : Int32 := -1000003
def kNone : Int32 := -1000004
def cStand (σ : fM) (f z n m : Nat) (o : Int32) : Int32 × fM :=
  if wi o 0 (σ.1 (iS 0) 3 - 1) = false then (kBad, σ) else if oSeat (σ.1 (iO 0 (ix o))) = false then (kNot, σ)
  else ((keepM σ f z n m).1 (iO 0 (ix o)) 3, pu (pu (keepM σ f z n m) (iO 0 (ix o)) 3 (-1)) (iO 0 (ix o)) 4 (-1))
def cGive (σ : fM) (f z n m : Nat) (o v : Int32) : Int32 × fM :=
  if wi o 0 (σ.1 (iS 0) 3 - 1) = false then (kBad, σ) else if wi v 1 9999 = false then (kBad, σ)
  else if ¬ σ.1 (iO 0 (ix o)) 2 + v ≤ 100000 then (kLim, σ)
  else ((keepM σ f z n m).1 (iO 0 (ix o)) 2 + v, pu (keepM σ f z n m) (iO 0 (ix o)) 2 ((keepM σ f z n m).1 (iO 0 (ix o)) 2 + v))
def cSeat (σ : fM) (f z n m : Nat) (o b : Int32) : Int32 × fM :=
  if wi o 0 (σ.1 (iS 0) 3 - 1) = false then (kBad, σ) else if wi b 0 2 = false then (kBad, σ)
  else if oSeat (σ.1 (iO 0 (ix o))) = true then (kNot, σ) else if tks b (σ.1 (iO 0 (ix o))) = false then (kNot, σ)
  else let p := if tak σ 0 n b 0 = true then (if tak σ 0 n b 1 = true then -1 else 1) else 0
    if p = -1 then (kLim, σ) else
    let τ := pu (pu (keepM σ f z n m) (iO 0 (ix o)) 3 b) (iO 0 (ix o)) 4 p
    (sumF 0 (fun i => if τ.1 (iO 0 i) 3 = b then 1 else 0) n, τ)
def cLend (σ : fM) (f z n m : Nat) (c e v : Int32) : Int32 × fM :=
  if wi c 0 (σ.1 (iS 0) 3 - 1) = false then (kBad, σ) else if wi e 0 (σ.1 (iS 0) 3 - 1) = false then (kBad, σ)
  else if c = e then (kBad, σ) else if wi v 1 9999 = false then (kBad, σ)
  else if ¬ v ≤ σ.1 (iO 0 (ix c)) 2 then (kNot, σ) else if ¬ σ.1 (iS 0) 4 < 8 then (kLim, σ)
  else (nI m, addM (keepM σ f z n m) 0 (ix c) (ix e) m v)
def cOracle (σ : fM) (f z n m : Nat) (k u p : Int32) : Int32 × fM :=
  if wi k 0 4 = false then (kBad, σ) else if wi u 0 (mostN k) = false then (kBad, σ) else if wi p 0 9999 = false then (kBad, σ)
  else if ¬ σ.1 (iS 0) 3 < 6 then (kLim, σ)
  else let τ := keepM σ f z n m
    (nI n, pu (puR (puR τ (iO 0 n) (oBegin (τ.1 (iO 0 n)) k u p)) (iT 0 n) (fun q => if q < 32 then 1 else τ.1 (iT 0 n) q)) (iS 0) 3 (nI (n + 1)))
def cBranch (σ : fM) (f z n m : Nat) (a k : Int32) : Int32 × fM :=
  if isA a = false then (kBad, σ) else if wi k 0 1 = false then (kBad, σ)
  else (runV (keepM σ f z n m) 0 n a k, runM (keepM σ f z n m) 0 n m a k)
def sLo (w : Nat) : Int32 := if w = 0 then 1 else 0
def sHi (w : Nat) : Int32 := if w = 2 then 100 else 50
def cSet (σ : fM) (f z n m : Nat) (w v : Int32) : Int32 × fM :=
  if wi w 0 2 = false then (kBad, σ) else if wi v (sLo (ix w)) (sHi (ix w)) = false then (kBad, σ)
  else ((keepM σ f z n m).1 (iSet 0) (ix w), pu (keepM σ f z n m) (iSet 0) (ix w) v)

set_option maxRecDepth 100000 in
set_option maxHeartbeats 4000000 in
theorem ct_X5_stand {l : Launch} {X : fX} {σ : fM} {f z n m : Nat} (hg : gst σ 0 n m) (hp : pst σ f z) {o : Int32} : Ct l X yX5_stand cX5_stand 4 (some .int) 5 [ra X 0, .int o] σ (some (.int (cStand σ f z n m o).1)) (cStand σ f z n m o).2 := by
  refine Ct.of RX5 rfl (by decide) (Nat.le_of_ble_eq_true rfl) ?_
  intro x hL h hr
  refine g_sub [(0, ra X 0), (1, .int o)] ⟨rfl, rfl, trivial⟩ ?_
  obtain ⟨hc, hcr, hgd⟩ := id hg
  obtain ⟨hn, hm, hn6, hm8⟩ := id hc
  refine g_aload_n h dX5_stand_0 rfl ?_
  refine g_iload_n h dX5_stand_1 rfl ?_
  refine cl5_71 h  (ct_X5_isOracle ) rfl dX5_stand_2 rfl (Nat.le_of_ble_eq_true rfl) (by decide) ?_
  refine g_ifneB h 11 dX5_stand_5 (by decide) (fun c5 => ?_) (fun c5 => ?_)
  · obtain ⟨j, hj, rfl⟩ := wi_or (by omega) hn c5
    have hij : (nI j).toNatClampNeg = j := nI_clamp (by omega)
    refine g_aload_n h dX5_stand_11 rfl ?_
    refine gf5_10 h  dX5_stand_12 ?_
    refine gf5_61 h (by omega) dX5_stand_15 ?_
    refine g_iload_n h dX5_stand_18 rfl ?_
    refine g_aaldO h (by omega) rfl (by omega) dX5_stand_19 ?_
    refine g_astore_n h dX5_stand_20 (by rw [hL]; decide) ?_
    refine g_aload_n h dX5_stand_21 rfl ?_
    refine cl5_75 h (by omega) (by omega) (ct_X1_hasSeat (by omega) (by omega)) rfl dX5_stand_22 rfl (Nat.le_of_ble_eq_true rfl) (by decide) ?_
    refine g_ifneB h 31 dX5_stand_25 (by decide) (fun c25 => ?_) (fun c25 => ?_)
    · refine g_aload_n h dX5_stand_31 rfl ?_
      refine gf5_22 h  dX5_stand_32 ?_
      refine g_aload_n h dX5_stand_35 rfl ?_
      refine gf5_10 h  dX5_stand_36 ?_
      refine cl5_45 h  (ct_X2_keep hp hc) rfl dX5_stand_39 rfl (Nat.le_of_ble_eq_true rfl) (by decide) ?_
      refine g_aload_n h dX5_stand_42 rfl ?_
      refine gf5_87 h (by omega) (by omega) dX5_stand_43 ?_
      refine g_istore_n h dX5_stand_46 (by rw [hL]; decide) ?_
      refine g_aload_n h dX5_stand_47 rfl ?_
      refine g_iconst (v := (-1)) h dX5_stand_48 (by decide) ?_
      refine gp5_87 h (by omega) (by omega) dX5_stand_49 ?_
      refine g_aload_n h dX5_stand_52 rfl ?_
      refine g_iconst (v := (-1)) h dX5_stand_53 (by decide) ?_
      refine gp5_90 h (by omega) (by omega) dX5_stand_54 ?_
      refine g_iload_n h dX5_stand_57 rfl ?_
      exact g_iret h hr dX5_stand_58 (by first | (simp [cStand, kBad, kNot, kLim, kNone, ix, hij, c5, c25]; done) | (simp [cStand, kBad, kNot, kLim, kNone, ix, c5, c25]; done) | (simp_all [cStand, kBad, kNot, kLim, kNone, ix]; done)) (by first | (simp [cStand, kBad, kNot, kLim, kNone, ix, hij, c5, c25]; done) | (simp [cStand, kBad, kNot, kLim, kNone, ix, c5, c25]; done) | (simp_all [cStand, kBad, kNot, kLim, kNone, ix]; done))
    · refine g_ldc h (-1000002) (lw_in 272 (by decide +kernel) rfl) dX5_stand_28 ?_
      exact g_iret h hr dX5_stand_30 (by first | (simp [cStand, kBad, kNot, kLim, kNone, ix, hij, c5, c25]; done) | (simp [cStand, kBad, kNot, kLim, kNone, ix, c5, c25]; done) | (simp_all [cStand, kBad, kNot, kLim, kNone, ix]; done)) (by first | (simp [cStand, kBad, kNot, kLim, kNone, ix, hij, c5, c25]; done) | (simp [cStand, kBad, kNot, kLim, kNone, ix, c5, c25]; done) | (simp_all [cStand, kBad, kNot, kLim, kNone, ix]; done))
  · refine g_ldc h (-1000001) (lw_in 220 (by decide +kernel) rfl) dX5_stand_8 ?_
    exact g_iret h hr dX5_stand_10 (by first | (simp [cStand, kBad, kNot, kLim, kNone, ix, hij, c5]; done) | (simp [cStand, kBad, kNot, kLim, kNone, ix, c5]; done) | (simp_all [cStand, kBad, kNot, kLim, kNone, ix]; done)) (by first | (simp [cStand, kBad, kNot, kLim, kNone, ix, hij, c5]; done) | (simp [cStand, kBad, kNot, kLim, kNone, ix, c5]; done) | (simp_all [cStand, kBad, kNot, kLim, kNone, ix]; done))
set_option maxRecDepth 100000 in
set_option maxHeartbeats 4000000 in
theorem ct_X5_give {l : Launch} {X : fX} {σ : fM} {f z n m : Nat} (hg : gst σ 0 n m) (hp : pst σ f z) {o v : Int32} : Ct l X yX5_give cX5_give 4 (some .int) 5 [ra X 0, .int o, .int v] σ (some (.int (cGive σ f z n m o v).1)) (cGive σ f z n m o v).2 := by
  refine Ct.of RX5 rfl (by decide) (Nat.le_of_ble_eq_true rfl) ?_
  intro x hL h hr
  refine g_sub [(0, ra X 0), (1, .int o), (2, .int v)] ⟨rfl, rfl, rfl, trivial⟩ ?_
  obtain ⟨hc, hcr, hgd⟩ := id hg
  obtain ⟨hn, hm, hn6, hm8⟩ := id hc
  refine g_aload_n h dX5_give_0 rfl ?_
  refine g_iload_n h dX5_give_1 rfl ?_
  refine cl5_71 h  (ct_X5_isOracle ) rfl dX5_give_2 rfl (Nat.le_of_ble_eq_true rfl) (by decide) ?_
  refine g_ifeqB h 19 dX5_give_5 (by decide) (fun c5 => ?_) (fun c5 => ?_)
  · refine g_ldc h (-1000001) (lw_in 220 (by decide +kernel) rfl) dX5_give_19 ?_
    exact g_iret h hr dX5_give_21 (by first | (simp [cGive, kBad, kNot, kLim, kNone, ix, hij, c5, pu_puR, puR_self, upd_s]; done) | (simp [cGive, kBad, kNot, kLim, kNone, ix, c5, pu_puR, puR_self, upd_s]; done) | (simp_all [cGive, kBad, kNot, kLim, kNone, ix]; done)) (by first | (simp [cGive, kBad, kNot, kLim, kNone, ix, hij, c5, pu_puR, puR_self, upd_s]; done) | (simp [cGive, kBad, kNot, kLim, kNone, ix, c5, pu_puR, puR_self, upd_s]; done) | (simp_all [cGive, kBad, kNot, kLim, kNone, ix]; done))
  · obtain ⟨j, hj, rfl⟩ := wi_or (by omega) hn c5
    have hij : (nI j).toNatClampNeg = j := nI_clamp (by omega)
    refine g_iload_n h dX5_give_8 rfl ?_
    refine g_iconst (v := 1) h dX5_give_9 (by decide) ?_
    refine g_sipush (v := 9999) h dX5_give_10 (by decide) ?_
    refine cl5_33 h (ct_X5_isWithin) rfl dX5_give_13 rfl (Nat.le_of_ble_eq_true rfl) (by decide) ?_
    refine g_ifneB h 22 dX5_give_16 (by decide) (fun c16 => ?_) (fun c16 => ?_)
    · refine g_aload_n h dX5_give_22 rfl ?_
      refine gf5_10 h  dX5_give_23 ?_
      refine gf5_61 h (by omega) dX5_give_26 ?_
      refine g_iload_n h dX5_give_29 rfl ?_
      refine g_aaldO h (by omega) rfl (by omega) dX5_give_30 ?_
      refine g_astore_n h dX5_give_31 (by rw [hL]; decide) ?_
      refine g_aload_n h dX5_give_32 rfl ?_
      refine gf5_96 h (by omega) (by omega) dX5_give_33 ?_
      refine g_iload_n h dX5_give_36 rfl ?_
      refine g_iadd h dX5_give_37 ?_
      refine g_ldc h (100000) (lw_in 293 (by decide +kernel) rfl) dX5_give_38 ?_
      refine g_icle h 46 dX5_give_40 (by decide) (fun c40 => ?_) (fun c40 => ?_)
      · refine g_aload_n h dX5_give_46 rfl ?_
        refine gf5_22 h  dX5_give_47 ?_
        refine g_aload_n h dX5_give_50 rfl ?_
        refine gf5_10 h  dX5_give_51 ?_
        refine cl5_45 h  (ct_X2_keep hp hc) rfl dX5_give_54 rfl (Nat.le_of_ble_eq_true rfl) (by decide) ?_
        refine g_aload_n h dX5_give_57 rfl ?_
        refine g_dup h dX5_give_58 rfl ?_
        refine gf5_96 h (by omega) (by omega) dX5_give_59 ?_
        refine g_iload_n h dX5_give_62 rfl ?_
        refine g_iadd h dX5_give_63 ?_
        refine gp5_96 h (by omega) (by omega) dX5_give_64 ?_
        refine g_aload_n h dX5_give_67 rfl ?_
        refine gf5_96 h (by omega) (by omega) dX5_give_68 ?_
        exact g_iret h hr dX5_give_71 (by first | (simp [cGive, kBad, kNot, kLim, kNone, ix, hij, c5, c16, c40, pu_puR, puR_self, upd_s]; done) | (simp [cGive, kBad, kNot, kLim, kNone, ix, c5, c16, c40, pu_puR, puR_self, upd_s]; done) | (simp_all [cGive, kBad, kNot, kLim, kNone, ix]; done)) (by first | (simp [cGive, kBad, kNot, kLim, kNone, ix, hij, c5, c16, c40, pu_puR, puR_self, upd_s]; done) | (simp [cGive, kBad, kNot, kLim, kNone, ix, c5, c16, c40, pu_puR, puR_self, upd_s]; done) | (simp_all [cGive, kBad, kNot, kLim, kNone, ix]; done))
      · refine g_ldc h (-1000003) (lw_in 248 (by decide +kernel) rfl) dX5_give_43 ?_
        exact g_iret h hr dX5_give_45 (by first | (simp [cGive, kBad, kNot, kLim, kNone, ix, hij, c5, c16, c40, pu_puR, puR_self, upd_s]; done) | (simp [cGive, kBad, kNot, kLim, kNone, ix, c5, c16, c40, pu_puR, puR_self, upd_s]; done) | (simp_all [cGive, kBad, kNot, kLim, kNone, ix]; done)) (by first | (simp [cGive, kBad, kNot, kLim, kNone, ix, hij, c5, c16, c40, pu_puR, puR_self, upd_s]; done) | (simp [cGive, kBad, kNot, kLim, kNone, ix, c5, c16, c40, pu_puR, puR_self, upd_s]; done) | (simp_all [cGive, kBad, kNot, kLim, kNone, ix]; done))
    · refine g_ldc h (-1000001) (lw_in 220 (by decide +kernel) rfl) dX5_give_19 ?_
      exact g_iret h hr dX5_give_21 (by first | (simp [cGive, kBad, kNot, kLim, kNone, ix, hij, c5, c16, pu_puR, puR_self, upd_s]; done) | (simp [cGive, kBad, kNot, kLim, kNone, ix, c5, c16, pu_puR, puR_self, upd_s]; done) | (simp_all [cGive, kBad, kNot, kLim, kNone, ix]; done)) (by first | (simp [cGive, kBad, kNot, kLim, kNone, ix, hij, c5, c16, pu_puR, puR_self, upd_s]; done) | (simp [cGive, kBad, kNot, kLim, kNone, ix, c5, c16, pu_puR, puR_self, upd_s]; done) | (simp_all [cGive, kBad, kNot, kLim, kNone, ix]; done))
set_option maxRecDepth 100000 in
set_option maxHeartbeats 4000000 in
theorem ct_X5_seat {l : Launch} {X : fX} {σ : fM} {f z n m : Nat} (hg : gst σ 0 n m) (hp : pst σ f z) {o b : Int32} : Ct l X yX5_seat cX5_seat 5 (some .int) 5 [ra X 0, .int o, .int b] σ (some (.int (cSeat σ f z n m o b).1)) (cSeat σ f z n m o b).2 := by
  refine Ct.of RX5 rfl (by decide) (Nat.le_of_ble_eq_true rfl) ?_
  intro x hL h hr
  refine g_sub [(0, ra X 0), (1, .int o), (2, .int b)] ⟨rfl, rfl, rfl, trivial⟩ ?_
  obtain ⟨hc, hcr, hgd⟩ := id hg
  obtain ⟨hn, hm, hn6, hm8⟩ := id hc
  refine g_aload_n h dX5_seat_0 rfl ?_
  refine g_iload_n h dX5_seat_1 rfl ?_
  refine cl5_71 h  (ct_X5_isOracle ) rfl dX5_seat_2 rfl (Nat.le_of_ble_eq_true rfl) (by decide) ?_
  refine g_ifeqB h 17 dX5_seat_5 (by decide) (fun c5 => ?_) (fun c5 => ?_)
  · refine g_ldc h (-1000001) (lw_in 220 (by decide +kernel) rfl) dX5_seat_17 ?_
    exact g_iret h hr dX5_seat_19 (by first | (simp [cSeat, kBad, kNot, kLim, kNone, ix, hij, c5]; done) | (simp [cSeat, kBad, kNot, kLim, kNone, ix, c5]; done) | (simp_all [cSeat, kBad, kNot, kLim, kNone, ix]; done)) (by first | (simp [cSeat, kBad, kNot, kLim, kNone, ix, hij, c5]; done) | (simp [cSeat, kBad, kNot, kLim, kNone, ix, c5]; done) | (simp_all [cSeat, kBad, kNot, kLim, kNone, ix]; done))
  · obtain ⟨j, hj, rfl⟩ := wi_or (by omega) hn c5
    have hij : (nI j).toNatClampNeg = j := nI_clamp (by omega)
    refine g_iload_n h dX5_seat_8 rfl ?_
    refine g_iconst (v := 0) h dX5_seat_9 (by decide) ?_
    refine g_iconst (v := 2) h dX5_seat_10 (by decide) ?_
    refine cl5_33 h (ct_X5_isWithin) rfl dX5_seat_11 rfl (Nat.le_of_ble_eq_true rfl) (by decide) ?_
    refine g_ifneB h 20 dX5_seat_14 (by decide) (fun c14 => ?_) (fun c14 => ?_)
    · refine g_aload_n h dX5_seat_20 rfl ?_
      refine gf5_10 h  dX5_seat_21 ?_
      refine gf5_61 h (by omega) dX5_seat_24 ?_
      refine g_iload_n h dX5_seat_27 rfl ?_
      refine g_aaldO h (by omega) rfl (by omega) dX5_seat_28 ?_
      refine g_astore_n h dX5_seat_29 (by rw [hL]; decide) ?_
      refine g_aload_n h dX5_seat_30 rfl ?_
      refine cl5_75 h (by omega) (by omega) (ct_X1_hasSeat (by omega) (by omega)) rfl dX5_seat_31 rfl (Nat.le_of_ble_eq_true rfl) (by decide) ?_
      refine g_ifneB h 45 dX5_seat_34 (by decide) (fun c34 => ?_) (fun c34 => ?_)
      · refine g_ldc h (-1000002) (lw_in 272 (by decide +kernel) rfl) dX5_seat_45 ?_
        exact g_iret h hr dX5_seat_47 (by first | (simp [cSeat, kBad, kNot, kLim, kNone, ix, hij, c5, c14, c34]; done) | (simp [cSeat, kBad, kNot, kLim, kNone, ix, c5, c14, c34]; done) | (simp_all [cSeat, kBad, kNot, kLim, kNone, ix]; done)) (by first | (simp [cSeat, kBad, kNot, kLim, kNone, ix, hij, c5, c14, c34]; done) | (simp [cSeat, kBad, kNot, kLim, kNone, ix, c5, c14, c34]; done) | (simp_all [cSeat, kBad, kNot, kLim, kNone, ix]; done))
      · refine g_iload_n h dX5_seat_37 rfl ?_
        refine g_aload_n h dX5_seat_38 rfl ?_
        refine cl5_79 h (ct_X5_takes (s := 0) (i := j) (by decide) (by omega)) rfl dX5_seat_39 rfl (Nat.le_of_ble_eq_true rfl) (by decide) ?_
        refine g_ifneB h 48 dX5_seat_42 (by decide) (fun c42 => ?_) (fun c42 => ?_)
        · refine g_aload_n h dX5_seat_48 rfl ?_
          refine gf5_10 h  dX5_seat_49 ?_
          refine g_iload_n h dX5_seat_52 rfl ?_
          refine cl5_84 h (by omega) (ct_X3_lowestFreeSeat (by decide) hc) rfl dX5_seat_53 rfl (Nat.le_of_ble_eq_true rfl) (by decide) ?_
          refine g_istore h dX5_seat_56 (by rw [hL]; decide) ?_
          refine g_iload h dX5_seat_58 rfl ?_
          refine g_iconst (v := (-1)) h dX5_seat_60 (by decide) ?_
          refine g_icne h 67 dX5_seat_61 (by decide) (fun c61 => ?_) (fun c61 => ?_)
          · refine g_aload_n h dX5_seat_67 rfl ?_
            refine gf5_22 h  dX5_seat_68 ?_
            refine g_aload_n h dX5_seat_71 rfl ?_
            refine gf5_10 h  dX5_seat_72 ?_
            refine cl5_45 h  (ct_X2_keep hp hc) rfl dX5_seat_75 rfl (Nat.le_of_ble_eq_true rfl) (by decide) ?_
            refine g_aload_n h dX5_seat_78 rfl ?_
            refine g_iload_n h dX5_seat_79 rfl ?_
            refine gp5_87 h (by omega) (by omega) dX5_seat_80 ?_
            refine g_aload_n h dX5_seat_83 rfl ?_
            refine g_iload h dX5_seat_84 rfl ?_
            refine gp5_90 h (by omega) (by omega) dX5_seat_86 ?_
            refine g_aload_n h dX5_seat_89 rfl ?_
            refine gf5_10 h  dX5_seat_90 ?_
            refine g_iload_n h dX5_seat_93 rfl ?_
            refine cl5_93 h (by omega) (ct_X3_sittersOf (m := m) (by decide) ⟨by rw [pu_ne _ (iO_S 0 j 0 (by omega)).symm, pu_ne _ (iO_S 0 j 0 (by omega)).symm]; exact (gst_keep hg).1.1, by rw [pu_ne _ (iO_S 0 j 0 (by omega)).symm, pu_ne _ (iO_S 0 j 0 (by omega)).symm]; exact (gst_keep hg).1.2.1, hn6, hm8⟩) rfl dX5_seat_94 rfl (Nat.le_of_ble_eq_true rfl) (by decide) ?_
            exact g_iret h hr dX5_seat_97 (by first | (simp [cSeat, kBad, kNot, kLim, kNone, ix, hij, c5, c14, c34, c42, c61]; done) | (simp [cSeat, kBad, kNot, kLim, kNone, ix, c5, c14, c34, c42, c61]; done) | (simp_all [cSeat, kBad, kNot, kLim, kNone, ix]; done)) (by first | (simp [cSeat, kBad, kNot, kLim, kNone, ix, hij, c5, c14, c34, c42, c61]; done) | (simp [cSeat, kBad, kNot, kLim, kNone, ix, c5, c14, c34, c42, c61]; done) | (simp_all [cSeat, kBad, kNot, kLim, kNone, ix]; done))
          · refine g_ldc h (-1000003) (lw_in 248 (by decide +kernel) rfl) dX5_seat_64 ?_
            exact g_iret h hr dX5_seat_66 (by first | (simp [cSeat, kBad, kNot, kLim, kNone, ix, hij, c5, c14, c34, c42, c61]; done) | (simp [cSeat, kBad, kNot, kLim, kNone, ix, c5, c14, c34, c42, c61]; done) | (simp_all [cSeat, kBad, kNot, kLim, kNone, ix]; done)) (by first | (simp [cSeat, kBad, kNot, kLim, kNone, ix, hij, c5, c14, c34, c42, c61]; done) | (simp [cSeat, kBad, kNot, kLim, kNone, ix, c5, c14, c34, c42, c61]; done) | (simp_all [cSeat, kBad, kNot, kLim, kNone, ix]; done))
        · refine g_ldc h (-1000002) (lw_in 272 (by decide +kernel) rfl) dX5_seat_45 ?_
          exact g_iret h hr dX5_seat_47 (by first | (simp [cSeat, kBad, kNot, kLim, kNone, ix, hij, c5, c14, c34, c42]; done) | (simp [cSeat, kBad, kNot, kLim, kNone, ix, c5, c14, c34, c42]; done) | (simp_all [cSeat, kBad, kNot, kLim, kNone, ix]; done)) (by first | (simp [cSeat, kBad, kNot, kLim, kNone, ix, hij, c5, c14, c34, c42]; done) | (simp [cSeat, kBad, kNot, kLim, kNone, ix, c5, c14, c34, c42]; done) | (simp_all [cSeat, kBad, kNot, kLim, kNone, ix]; done))
    · refine g_ldc h (-1000001) (lw_in 220 (by decide +kernel) rfl) dX5_seat_17 ?_
      exact g_iret h hr dX5_seat_19 (by first | (simp [cSeat, kBad, kNot, kLim, kNone, ix, hij, c5, c14]; done) | (simp [cSeat, kBad, kNot, kLim, kNone, ix, c5, c14]; done) | (simp_all [cSeat, kBad, kNot, kLim, kNone, ix]; done)) (by first | (simp [cSeat, kBad, kNot, kLim, kNone, ix, hij, c5, c14]; done) | (simp [cSeat, kBad, kNot, kLim, kNone, ix, c5, c14]; done) | (simp_all [cSeat, kBad, kNot, kLim, kNone, ix]; done))
set_option maxRecDepth 100000 in
set_option maxHeartbeats 4000000 in
theorem ct_X5_lend {l : Launch} {X : fX} {σ : fM} {f z n m : Nat} (hg : gst σ 0 n m) (hp : pst σ f z) {o e v : Int32} : Ct l X yX5_lend cX5_lend 4 (some .int) 5 [ra X 0, .int o, .int e, .int v] σ (some (.int (cLend σ f z n m o e v).1)) (cLend σ f z n m o e v).2 := by
  refine Ct.of RX5 rfl (by decide) (Nat.le_of_ble_eq_true rfl) ?_
  intro x hL h hr
  refine g_sub [(0, ra X 0), (1, .int o), (2, .int e), (3, .int v)] ⟨rfl, rfl, rfl, rfl, trivial⟩ ?_
  obtain ⟨hc, hcr, hgd⟩ := id hg
  obtain ⟨hn, hm, hn6, hm8⟩ := id hc
  refine g_aload_n h dX5_lend_0 rfl ?_
  refine g_iload_n h dX5_lend_1 rfl ?_
  refine cl5_71 h  (ct_X5_isOracle ) rfl dX5_lend_2 rfl (Nat.le_of_ble_eq_true rfl) (by decide) ?_
  refine g_ifeqB h 32 dX5_lend_5 (by decide) (fun c5 => ?_) (fun c5 => ?_)
  · refine g_ldc h (-1000001) (lw_in 220 (by decide +kernel) rfl) dX5_lend_32 ?_
    exact g_iret h hr dX5_lend_34 (by first | (simp [cLend, kBad, kNot, kLim, kNone, ix, hij, c5, hij2]; done) | (simp [cLend, kBad, kNot, kLim, kNone, ix, c5, hij2]; done) | (simp_all [cLend, kBad, kNot, kLim, kNone, ix]; done)) (by first | (simp [cLend, kBad, kNot, kLim, kNone, ix, hij, c5, hij2]; done) | (simp [cLend, kBad, kNot, kLim, kNone, ix, c5, hij2]; done) | (simp_all [cLend, kBad, kNot, kLim, kNone, ix]; done))
  · obtain ⟨j, hj, rfl⟩ := wi_or (by omega) hn c5
    have hij : (nI j).toNatClampNeg = j := nI_clamp (by omega)
    refine g_aload_n h dX5_lend_8 rfl ?_
    refine g_iload_n h dX5_lend_9 rfl ?_
    refine cl5_71 h  (ct_X5_isOracle ) rfl dX5_lend_10 rfl (Nat.le_of_ble_eq_true rfl) (by decide) ?_
    refine g_ifeqB h 32 dX5_lend_13 (by decide) (fun c13 => ?_) (fun c13 => ?_)
    · refine g_ldc h (-1000001) (lw_in 220 (by decide +kernel) rfl) dX5_lend_32 ?_
      exact g_iret h hr dX5_lend_34 (by first | (simp [cLend, kBad, kNot, kLim, kNone, ix, hij, c5, c13, hij2]; done) | (simp [cLend, kBad, kNot, kLim, kNone, ix, c5, c13, hij2]; done) | (simp_all [cLend, kBad, kNot, kLim, kNone, ix]; done)) (by first | (simp [cLend, kBad, kNot, kLim, kNone, ix, hij, c5, c13, hij2]; done) | (simp [cLend, kBad, kNot, kLim, kNone, ix, c5, c13, hij2]; done) | (simp_all [cLend, kBad, kNot, kLim, kNone, ix]; done))
    · obtain ⟨j2, hj2, rfl⟩ := wi_or (by omega) hn c13
      have hij2 : (nI j2).toNatClampNeg = j2 := nI_clamp (by omega)
      refine g_iload_n h dX5_lend_16 rfl ?_
      refine g_iload_n h dX5_lend_17 rfl ?_
      refine g_iceq h 32 dX5_lend_18 (by decide) (fun c18 => ?_) (fun c18 => ?_)
      · refine g_ldc h (-1000001) (lw_in 220 (by decide +kernel) rfl) dX5_lend_32 ?_
        exact g_iret h hr dX5_lend_34 (by first | (simp [cLend, kBad, kNot, kLim, kNone, ix, hij, c5, c13, c18, hij2]; done) | (simp [cLend, kBad, kNot, kLim, kNone, ix, c5, c13, c18, hij2]; done) | (simp_all [cLend, kBad, kNot, kLim, kNone, ix]; done)) (by first | (simp [cLend, kBad, kNot, kLim, kNone, ix, hij, c5, c13, c18, hij2]; done) | (simp [cLend, kBad, kNot, kLim, kNone, ix, c5, c13, c18, hij2]; done) | (simp_all [cLend, kBad, kNot, kLim, kNone, ix]; done))
      · refine g_iload_n h dX5_lend_21 rfl ?_
        refine g_iconst (v := 1) h dX5_lend_22 (by decide) ?_
        refine g_sipush (v := 9999) h dX5_lend_23 (by decide) ?_
        refine cl5_33 h (ct_X5_isWithin) rfl dX5_lend_26 rfl (Nat.le_of_ble_eq_true rfl) (by decide) ?_
        refine g_ifneB h 35 dX5_lend_29 (by decide) (fun c29 => ?_) (fun c29 => ?_)
        · refine g_aload_n h dX5_lend_35 rfl ?_
          refine gf5_10 h  dX5_lend_36 ?_
          refine gf5_61 h (by omega) dX5_lend_39 ?_
          refine g_iload_n h dX5_lend_42 rfl ?_
          refine g_aaldO h (by omega) rfl (by omega) dX5_lend_43 ?_
          refine gf5_96 h (by omega) (by omega) dX5_lend_44 ?_
          refine g_iload_n h dX5_lend_47 rfl ?_
          refine g_icge h 54 dX5_lend_48 (by decide) (fun c48 => ?_) (fun c48 => ?_)
          · refine g_aload_n h dX5_lend_54 rfl ?_
            refine gf5_10 h  dX5_lend_55 ?_
            refine gf5_100 h (by omega) dX5_lend_58 ?_
            refine g_bipush (v := 8) h dX5_lend_61 (by decide) ?_
            refine g_iclt h 69 dX5_lend_63 (by decide) (fun c63 => ?_) (fun c63 => ?_)
            · have hm7 : m < 8 := by rw [hm] at c63; exact Nat.not_le.mp (fun q => absurd c63 (nI_nlt (b := 8) q (by omega)))
              refine g_aload_n h dX5_lend_69 rfl ?_
              refine gf5_22 h  dX5_lend_70 ?_
              refine g_aload_n h dX5_lend_73 rfl ?_
              refine gf5_10 h  dX5_lend_74 ?_
              refine cl5_45 h  (ct_X2_keep hp hc) rfl dX5_lend_77 rfl (Nat.le_of_ble_eq_true rfl) (by decide) ?_
              refine g_aload_n h dX5_lend_80 rfl ?_
              refine gf5_10 h  dX5_lend_81 ?_
              refine g_iload_n h dX5_lend_84 rfl ?_
              refine g_iload_n h dX5_lend_85 rfl ?_
              refine g_iload_n h dX5_lend_86 rfl ?_
              refine cl5_103 h (by omega) (ct_X3_addLoan (by decide) (gst_keep hg).1 (by omega) (by omega) hm7) rfl dX5_lend_87 rfl (Nat.le_of_ble_eq_true rfl) (by decide) ?_
              exact g_iret h hr dX5_lend_90 (by first | (simp [cLend, kBad, kNot, kLim, kNone, ix, hij, c5, c13, c18, c29, c48, c63, hij2]; done) | (simp [cLend, kBad, kNot, kLim, kNone, ix, c5, c13, c18, c29, c48, c63, hij2]; done) | (simp_all [cLend, kBad, kNot, kLim, kNone, ix]; done)) (by first | (simp [cLend, kBad, kNot, kLim, kNone, ix, hij, c5, c13, c18, c29, c48, c63, hij2]; done) | (simp [cLend, kBad, kNot, kLim, kNone, ix, c5, c13, c18, c29, c48, c63, hij2]; done) | (simp_all [cLend, kBad, kNot, kLim, kNone, ix]; done))
            · refine g_ldc h (-1000003) (lw_in 248 (by decide +kernel) rfl) dX5_lend_66 ?_
              exact g_iret h hr dX5_lend_68 (by first | (simp [cLend, kBad, kNot, kLim, kNone, ix, hij, c5, c13, c18, c29, c48, c63, hij2]; done) | (simp [cLend, kBad, kNot, kLim, kNone, ix, c5, c13, c18, c29, c48, c63, hij2]; done) | (simp_all [cLend, kBad, kNot, kLim, kNone, ix]; done)) (by first | (simp [cLend, kBad, kNot, kLim, kNone, ix, hij, c5, c13, c18, c29, c48, c63, hij2]; done) | (simp [cLend, kBad, kNot, kLim, kNone, ix, c5, c13, c18, c29, c48, c63, hij2]; done) | (simp_all [cLend, kBad, kNot, kLim, kNone, ix]; done))
          · refine g_ldc h (-1000002) (lw_in 272 (by decide +kernel) rfl) dX5_lend_51 ?_
            exact g_iret h hr dX5_lend_53 (by first | (simp [cLend, kBad, kNot, kLim, kNone, ix, hij, c5, c13, c18, c29, c48, hij2]; done) | (simp [cLend, kBad, kNot, kLim, kNone, ix, c5, c13, c18, c29, c48, hij2]; done) | (simp_all [cLend, kBad, kNot, kLim, kNone, ix]; done)) (by first | (simp [cLend, kBad, kNot, kLim, kNone, ix, hij, c5, c13, c18, c29, c48, hij2]; done) | (simp [cLend, kBad, kNot, kLim, kNone, ix, c5, c13, c18, c29, c48, hij2]; done) | (simp_all [cLend, kBad, kNot, kLim, kNone, ix]; done))
        · refine g_ldc h (-1000001) (lw_in 220 (by decide +kernel) rfl) dX5_lend_32 ?_
          exact g_iret h hr dX5_lend_34 (by first | (simp [cLend, kBad, kNot, kLim, kNone, ix, hij, c5, c13, c18, c29, hij2]; done) | (simp [cLend, kBad, kNot, kLim, kNone, ix, c5, c13, c18, c29, hij2]; done) | (simp_all [cLend, kBad, kNot, kLim, kNone, ix]; done)) (by first | (simp [cLend, kBad, kNot, kLim, kNone, ix, hij, c5, c13, c18, c29, hij2]; done) | (simp [cLend, kBad, kNot, kLim, kNone, ix, c5, c13, c18, c29, hij2]; done) | (simp_all [cLend, kBad, kNot, kLim, kNone, ix]; done))
set_option maxRecDepth 100000 in
set_option maxHeartbeats 4000000 in
theorem ct_X5_branch {l : Launch} {X : fX} {σ : fM} {f z n m : Nat} (hg : gst σ 0 n m) (hp : pst σ f z) {a k : Int32} : Ct l X yX5_branch cX5_branch 3 (some .int) 5 [ra X 0, .int a, .int k] σ (some (.int (cBranch σ f z n m a k).1)) (cBranch σ f z n m a k).2 := by
  refine Ct.of RX5 rfl (by decide) (Nat.le_of_ble_eq_true rfl) ?_
  intro x hL h hr
  refine g_sub [(0, ra X 0), (1, .int a), (2, .int k)] ⟨rfl, rfl, rfl, trivial⟩ ?_
  obtain ⟨hc, hcr, hgd⟩ := id hg
  obtain ⟨hn, hm, hn6, hm8⟩ := id hc
  refine g_iload_n h dX5_branch_0 rfl ?_
  refine cl5_107 h (ct_X5_isAddress) rfl dX5_branch_1 rfl (Nat.le_of_ble_eq_true rfl) (by decide) ?_
  refine g_ifeqB h 16 dX5_branch_4 (by decide) (fun c4 => ?_) (fun c4 => ?_)
  · refine g_ldc h (-1000001) (lw_in 220 (by decide +kernel) rfl) dX5_branch_16 ?_
    exact g_iret h hr dX5_branch_18 (by first | (simp [cBranch, kBad, kNot, kLim, kNone, ix, hij, c4]; done) | (simp [cBranch, kBad, kNot, kLim, kNone, ix, c4]; done) | (simp_all [cBranch, kBad, kNot, kLim, kNone, ix]; done)) (by first | (simp [cBranch, kBad, kNot, kLim, kNone, ix, hij, c4]; done) | (simp [cBranch, kBad, kNot, kLim, kNone, ix, c4]; done) | (simp_all [cBranch, kBad, kNot, kLim, kNone, ix]; done))
  · refine g_iload_n h dX5_branch_7 rfl ?_
    refine g_iconst (v := 0) h dX5_branch_8 (by decide) ?_
    refine g_iconst (v := 1) h dX5_branch_9 (by decide) ?_
    refine cl5_33 h (ct_X5_isWithin) rfl dX5_branch_10 rfl (Nat.le_of_ble_eq_true rfl) (by decide) ?_
    refine g_ifneB h 19 dX5_branch_13 (by decide) (fun c13 => ?_) (fun c13 => ?_)
    · refine g_aload_n h dX5_branch_19 rfl ?_
      refine gf5_22 h  dX5_branch_20 ?_
      refine g_aload_n h dX5_branch_23 rfl ?_
      refine gf5_10 h  dX5_branch_24 ?_
      refine cl5_45 h  (ct_X2_keep hp hc) rfl dX5_branch_27 rfl (Nat.le_of_ble_eq_true rfl) (by decide) ?_
      refine g_aload_n h dX5_branch_30 rfl ?_
      refine gf5_10 h  dX5_branch_31 ?_
      refine g_iload_n h dX5_branch_34 rfl ?_
      refine g_iload_n h dX5_branch_35 rfl ?_
      refine cl5_110 h (by omega) (ct_X3_runBranch (by decide) (gst_keep hg).1 (gst_keep hg).2.1 (gst_keep hg).2.2) rfl dX5_branch_36 rfl (Nat.le_of_ble_eq_true rfl) (by decide) ?_
      exact g_iret h hr dX5_branch_39 (by first | (simp [cBranch, kBad, kNot, kLim, kNone, ix, hij, c4, c13]; done) | (simp [cBranch, kBad, kNot, kLim, kNone, ix, c4, c13]; done) | (simp_all [cBranch, kBad, kNot, kLim, kNone, ix]; done)) (by first | (simp [cBranch, kBad, kNot, kLim, kNone, ix, hij, c4, c13]; done) | (simp [cBranch, kBad, kNot, kLim, kNone, ix, c4, c13]; done) | (simp_all [cBranch, kBad, kNot, kLim, kNone, ix]; done))
    · refine g_ldc h (-1000001) (lw_in 220 (by decide +kernel) rfl) dX5_branch_16 ?_
      exact g_iret h hr dX5_branch_18 (by first | (simp [cBranch, kBad, kNot, kLim, kNone, ix, hij, c4, c13]; done) | (simp [cBranch, kBad, kNot, kLim, kNone, ix, c4, c13]; done) | (simp_all [cBranch, kBad, kNot, kLim, kNone, ix]; done)) (by first | (simp [cBranch, kBad, kNot, kLim, kNone, ix, hij, c4, c13]; done) | (simp [cBranch, kBad, kNot, kLim, kNone, ix, c4, c13]; done) | (simp_all [cBranch, kBad, kNot, kLim, kNone, ix]; done))
set_option maxRecDepth 100000 in
set_option maxHeartbeats 4000000 in
theorem ct_X5_oracle {l : Launch} {X : fX} {σ : fM} {f z n m : Nat} (hg : gst σ 0 n m) (hp : pst σ f z) {k u p : Int32} : Ct l X yX5_oracle cX5_oracle 5 (some .int) 5 [ra X 0, .int k, .int u, .int p] σ (some (.int (cOracle σ f z n m k u p).1)) (cOracle σ f z n m k u p).2 := by
  refine Ct.of RX5 rfl (by decide) (Nat.le_of_ble_eq_true rfl) ?_
  intro x hL h hr
  refine g_sub [(0, ra X 0), (1, .int k), (2, .int u), (3, .int p)] ⟨rfl, rfl, rfl, rfl, trivial⟩ ?_
  obtain ⟨hc, hcr, hgd⟩ := id hg
  obtain ⟨hn, hm, hn6, hm8⟩ := id hc
  refine g_iload_n h dX5_oracle_0 rfl ?_
  refine g_iconst (v := 0) h dX5_oracle_1 (by decide) ?_
  refine g_iconst (v := 4) h dX5_oracle_2 (by decide) ?_
  refine cl5_33 h (ct_X5_isWithin) rfl dX5_oracle_3 rfl (Nat.le_of_ble_eq_true rfl) (by decide) ?_
  refine g_ifeqB h 32 dX5_oracle_6 (by decide) (fun c6 => ?_) (fun c6 => ?_)
  · refine g_ldc h (-1000001) (lw_in 220 (by decide +kernel) rfl) dX5_oracle_32 ?_
    exact g_iret h hr dX5_oracle_34 (by first | (simp [cOracle, kBad, kNot, kLim, kNone, ix, hij, c6, hnk, nI_succ]; done) | (simp [cOracle, kBad, kNot, kLim, kNone, ix, c6, hnk, nI_succ]; done) | (simp_all [cOracle, kBad, kNot, kLim, kNone, ix]; done)) (by first | (simp [cOracle, kBad, kNot, kLim, kNone, ix, hij, c6, hnk, nI_succ]; done) | (simp [cOracle, kBad, kNot, kLim, kNone, ix, c6, hnk, nI_succ]; done) | (simp_all [cOracle, kBad, kNot, kLim, kNone, ix]; done))
  · refine g_iload_n h dX5_oracle_9 rfl ?_
    refine g_iconst (v := 0) h dX5_oracle_10 (by decide) ?_
    refine g_iload_n h dX5_oracle_11 rfl ?_
    refine cl5_52 h (ct_X5_mostNumberOf) rfl dX5_oracle_12 rfl (Nat.le_of_ble_eq_true rfl) (by decide) ?_
    refine cl5_33 h (ct_X5_isWithin) rfl dX5_oracle_15 rfl (Nat.le_of_ble_eq_true rfl) (by decide) ?_
    refine g_ifeqB h 32 dX5_oracle_18 (by decide) (fun c18 => ?_) (fun c18 => ?_)
    · refine g_ldc h (-1000001) (lw_in 220 (by decide +kernel) rfl) dX5_oracle_32 ?_
      exact g_iret h hr dX5_oracle_34 (by first | (simp [cOracle, kBad, kNot, kLim, kNone, ix, hij, c6, c18, hnk, nI_succ]; done) | (simp [cOracle, kBad, kNot, kLim, kNone, ix, c6, c18, hnk, nI_succ]; done) | (simp_all [cOracle, kBad, kNot, kLim, kNone, ix]; done)) (by first | (simp [cOracle, kBad, kNot, kLim, kNone, ix, hij, c6, c18, hnk, nI_succ]; done) | (simp [cOracle, kBad, kNot, kLim, kNone, ix, c6, c18, hnk, nI_succ]; done) | (simp_all [cOracle, kBad, kNot, kLim, kNone, ix]; done))
    · refine g_iload_n h dX5_oracle_21 rfl ?_
      refine g_iconst (v := 0) h dX5_oracle_22 (by decide) ?_
      refine g_sipush (v := 9999) h dX5_oracle_23 (by decide) ?_
      refine cl5_33 h (ct_X5_isWithin) rfl dX5_oracle_26 rfl (Nat.le_of_ble_eq_true rfl) (by decide) ?_
      refine g_ifneB h 35 dX5_oracle_29 (by decide) (fun c29 => ?_) (fun c29 => ?_)
      · refine g_aload_n h dX5_oracle_35 rfl ?_
        refine gf5_10 h  dX5_oracle_36 ?_
        refine gf5_56 h (by omega) dX5_oracle_39 ?_
        refine g_bipush (v := 6) h dX5_oracle_42 (by decide) ?_
        refine g_iclt h 50 dX5_oracle_44 (by decide) (fun c44 => ?_) (fun c44 => ?_)
        · have hn5 : n < 6 := by rw [hn] at c44; exact Nat.not_le.mp (fun q => absurd c44 (nI_nlt (b := 6) q (by omega)))
          have hnk : (keepM σ f z n m).1 (iS 0) 3 = nI n := (gst_keep hg).1.1
          refine g_aload_n h dX5_oracle_50 rfl ?_
          refine gf5_22 h  dX5_oracle_51 ?_
          refine g_aload_n h dX5_oracle_54 rfl ?_
          refine gf5_10 h  dX5_oracle_55 ?_
          refine cl5_45 h  (ct_X2_keep hp hc) rfl dX5_oracle_58 rfl (Nat.le_of_ble_eq_true rfl) (by decide) ?_
          refine g_aload_n h dX5_oracle_61 rfl ?_
          refine gf5_10 h  dX5_oracle_62 ?_
          refine gf5_56 h (by omega) dX5_oracle_65 ?_
          refine g_istore h dX5_oracle_68 (by rw [hL]; decide) ?_
          refine g_aload_n h dX5_oracle_70 rfl ?_
          refine gf5_10 h  dX5_oracle_71 ?_
          refine gf5_61 h (by omega) dX5_oracle_74 ?_
          refine g_iload h dX5_oracle_77 rfl ?_
          refine g_aaldO h (by omega) hnk (by omega) dX5_oracle_79 ?_
          refine g_iload_n h dX5_oracle_80 rfl ?_
          refine g_iload_n h dX5_oracle_81 rfl ?_
          refine g_iload_n h dX5_oracle_82 rfl ?_
          refine cl5_65 h (by omega) (by omega) (ct_X1_begin (by decide) (by omega)) rfl dX5_oracle_83 rfl (Nat.le_of_ble_eq_true rfl) (by decide) ?_
          refine g_aload_n h dX5_oracle_86 rfl ?_
          refine gf5_10 h  dX5_oracle_87 ?_
          refine g_iload h dX5_oracle_90 rfl ?_
          refine g_iconst (v := 1) h dX5_oracle_92 (by decide) ?_
          refine g_iadd h dX5_oracle_93 ?_
          refine gp5_56 h (by omega) dX5_oracle_94 ?_
          refine g_iload h dX5_oracle_97 rfl ?_
          exact g_iret h hr dX5_oracle_99 (by first | (simp [cOracle, kBad, kNot, kLim, kNone, ix, hij, c6, c18, c29, c44, hnk, nI_succ]; done) | (simp [cOracle, kBad, kNot, kLim, kNone, ix, c6, c18, c29, c44, hnk, nI_succ]; done) | (simp_all [cOracle, kBad, kNot, kLim, kNone, ix]; done)) (by first | (simp [cOracle, kBad, kNot, kLim, kNone, ix, hij, c6, c18, c29, c44, hnk, nI_succ]; done) | (simp [cOracle, kBad, kNot, kLim, kNone, ix, c6, c18, c29, c44, hnk, nI_succ]; done) | (simp_all [cOracle, kBad, kNot, kLim, kNone, ix]; done))
        · refine g_ldc h (-1000003) (lw_in 248 (by decide +kernel) rfl) dX5_oracle_47 ?_
          exact g_iret h hr dX5_oracle_49 (by first | (simp [cOracle, kBad, kNot, kLim, kNone, ix, hij, c6, c18, c29, c44, hnk, nI_succ]; done) | (simp [cOracle, kBad, kNot, kLim, kNone, ix, c6, c18, c29, c44, hnk, nI_succ]; done) | (simp_all [cOracle, kBad, kNot, kLim, kNone, ix]; done)) (by first | (simp [cOracle, kBad, kNot, kLim, kNone, ix, hij, c6, c18, c29, c44, hnk, nI_succ]; done) | (simp [cOracle, kBad, kNot, kLim, kNone, ix, c6, c18, c29, c44, hnk, nI_succ]; done) | (simp_all [cOracle, kBad, kNot, kLim, kNone, ix]; done))
      · refine g_ldc h (-1000001) (lw_in 220 (by decide +kernel) rfl) dX5_oracle_32 ?_
        exact g_iret h hr dX5_oracle_34 (by first | (simp [cOracle, kBad, kNot, kLim, kNone, ix, hij, c6, c18, c29, hnk, nI_succ]; done) | (simp [cOracle, kBad, kNot, kLim, kNone, ix, c6, c18, c29, hnk, nI_succ]; done) | (simp_all [cOracle, kBad, kNot, kLim, kNone, ix]; done)) (by first | (simp [cOracle, kBad, kNot, kLim, kNone, ix, hij, c6, c18, c29, hnk, nI_succ]; done) | (simp [cOracle, kBad, kNot, kLim, kNone, ix, c6, c18, c29, hnk, nI_succ]; done) | (simp_all [cOracle, kBad, kNot, kLim, kNone, ix]; done))
set_option maxRecDepth 100000 in
set_option maxHeartbeats 4000000 in
theorem ct_X5_set {l : Launch} {X : fX} {σ : fM} {f z n m : Nat} (hg : gst σ 0 n m) (hp : pst σ f z) {w v : Int32} : Ct l X yX5_set cX5_set 4 (some .int) 5 [ra X 0, .int w, .int v] σ (some (.int (cSet σ f z n m w v).1)) (cSet σ f z n m w v).2 := by
  refine Ct.of RX5 rfl (by decide) (Nat.le_of_ble_eq_true rfl) ?_
  intro x hL h hr
  refine g_sub [(0, ra X 0), (1, .int w), (2, .int v)] ⟨rfl, rfl, rfl, trivial⟩ ?_
  obtain ⟨hc, hcr, hgd⟩ := id hg
  obtain ⟨hn, hm, hn6, hm8⟩ := id hc
  refine g_iload_n h dX5_set_0 rfl ?_
  refine g_iconst (v := 0) h dX5_set_1 (by decide) ?_
  refine g_iconst (v := 2) h dX5_set_2 (by decide) ?_
  refine cl5_33 h (ct_X5_isWithin) rfl dX5_set_3 rfl (Nat.le_of_ble_eq_true rfl) (by decide) ?_
  refine g_ifeqB h 26 dX5_set_6 (by decide) (fun c6 => ?_) (fun c6 => ?_)
  · refine g_ldc h (-1000001) (lw_in 220 (by decide +kernel) rfl) dX5_set_26 ?_
    exact g_iret h hr dX5_set_28 (by first | (simp [cSet, kBad, kNot, kLim, kNone, ix, hij, c6, sLo, sHi]; done) | (simp [cSet, kBad, kNot, kLim, kNone, ix, c6, sLo, sHi]; done) | (simp_all [cSet, kBad, kNot, kLim, kNone, ix]; done)) (by first | (simp [cSet, kBad, kNot, kLim, kNone, ix, hij, c6, sLo, sHi]; done) | (simp [cSet, kBad, kNot, kLim, kNone, ix, c6, sLo, sHi]; done) | (simp_all [cSet, kBad, kNot, kLim, kNone, ix]; done))
  · obtain ⟨j, hj, rfl⟩ := wi_ix (n := 2) (by decide) (by decide) c6
    have hij : (nI j).toNatClampNeg = j := nI_clamp (by omega)
    refine g_iload_n h dX5_set_9 rfl ?_
    refine g_s5_37 h dX5_set_10 ?_
    refine g_iload_n h dX5_set_13 rfl ?_
    refine g_tiL h rfl (by omega) dX5_set_14 ?_
    refine g_s5_41 h dX5_set_15 ?_
    refine g_iload_n h dX5_set_18 rfl ?_
    refine g_tiM h rfl (by omega) dX5_set_19 ?_
    refine cl5_33 h (ct_X5_isWithin) rfl dX5_set_20 rfl (Nat.le_of_ble_eq_true rfl) (by decide) ?_
    refine g_ifneB h 29 dX5_set_23 (by decide) (fun c23 => ?_) (fun c23 => ?_)
    · refine g_aload_n h dX5_set_29 rfl ?_
      refine gf5_22 h  dX5_set_30 ?_
      refine g_aload_n h dX5_set_33 rfl ?_
      refine gf5_10 h  dX5_set_34 ?_
      refine cl5_45 h  (ct_X2_keep hp hc) rfl dX5_set_37 rfl (Nat.le_of_ble_eq_true rfl) (by decide) ?_
      refine g_aload_n h dX5_set_40 rfl ?_
      refine gf5_10 h  dX5_set_41 ?_
      refine gf5_49 h (by omega) dX5_set_44 ?_
      refine g_iload_n h dX5_set_47 rfl ?_
      refine g_ialdSet h (by omega) rfl (by omega) dX5_set_48 ?_
      refine g_istore_n h dX5_set_49 (by rw [hL]; decide) ?_
      refine g_aload_n h dX5_set_50 rfl ?_
      refine gf5_10 h  dX5_set_51 ?_
      refine gf5_49 h (by omega) dX5_set_54 ?_
      refine g_iload_n h dX5_set_57 rfl ?_
      refine g_iload_n h dX5_set_58 rfl ?_
      refine g_iastN h (iSet_lt (by omega)) (enc_Set X (by omega)) rfl (by omega) (by decide) dX5_set_59 ?_
      refine g_iload_n h dX5_set_60 rfl ?_
      exact g_iret h hr dX5_set_61 (by first | (simp [cSet, kBad, kNot, kLim, kNone, ix, hij, c6, c23, sLo, sHi]; done) | (simp [cSet, kBad, kNot, kLim, kNone, ix, c6, c23, sLo, sHi]; done) | (simp_all [cSet, kBad, kNot, kLim, kNone, ix]; done)) (by first | (simp [cSet, kBad, kNot, kLim, kNone, ix, hij, c6, c23, sLo, sHi]; done) | (simp [cSet, kBad, kNot, kLim, kNone, ix, c6, c23, sLo, sHi]; done) | (simp_all [cSet, kBad, kNot, kLim, kNone, ix]; done))
    · refine g_ldc h (-1000001) (lw_in 220 (by decide +kernel) rfl) dX5_set_26 ?_
      exact g_iret h hr dX5_set_28 (by first | (simp [cSet, kBad, kNot, kLim, kNone, ix, hij, c6, c23, sLo, sHi]; done) | (simp [cSet, kBad, kNot, kLim, kNone, ix, c6, c23, sLo, sHi]; done) | (simp_all [cSet, kBad, kNot, kLim, kNone, ix]; done)) (by first | (simp [cSet, kBad, kNot, kLim, kNone, ix, hij, c6, c23, sLo, sHi]; done) | (simp [cSet, kBad, kNot, kLim, kNone, ix, c6, c23, sLo, sHi]; done) | (simp_all [cSet, kBad, kNot, kLim, kNone, ix]; done))
end
section
/-! the root: what is asked -/
theorem ofI0 : Int32.ofInt 0 = 0 := by decide
def cCounter (σ : fM) (o i : Int32) : Int32 × fM :=
  if wi o 0 (σ.1 (iS 0) 3 - 1) = false then (kBad, σ) else if ¬ 0 ≤ i then (kBad, σ)
  else if oSize (σ.1 (iO 0 (ix o))) ≤ i then (kNone, σ) else (σ.1 (iT 0 (ix o)) (ix i), σ)
theorem oSize_le {f : Nat → Int32} (hg : oGood f) {i : Int32} (h0 : 0 ≤ i) (h : ¬ oSize f ≤ i) : vp_in i 32 := by
  obtain ⟨j, hj, rfl⟩ := nI_of (Int32.not_lt.mpr h0)
  have h1 := Int32.not_le.mp h
  by_cases ht : oTab f = true
  · obtain ⟨n, hn, e⟩ := hg ht
    unfold oSize at h1
    rw [if_pos ht, e] at h1
    have key : ∀ n, n ≤ 5 → (1 : Int32) <<< (nI n &&& 31) = nI (2 ^ n) := by decide +kernel
    rw [key n hn] at h1
    have h32 : 2 ^ n ≤ 2 ^ 5 := Nat.pow_le_pow_right (by decide) hn
    have := (nI_ltI hj (by omega)).mp h1
    exact vp_in_nI (by omega) (by decide)
  · unfold oSize at h1
    rw [if_neg ht] at h1
    exact absurd h1 (nI_pos hj)
def cOracleOf (σ : fM) (n m : Nat) (o w : Int32) : Int32 × fM :=
  if wi o 0 (σ.1 (iS 0) 3 - 1) = false then (kBad, σ) else if wi w 0 10 = false then (kBad, σ)
  else let f := σ.1 (iO 0 (ix o))
    (if ix w = 3 then (if oSeat f = true then f 3 else kNone) else if ix w = 4 then (if oSeat f = true then f 4 else kNone)
    else if ix w = 9 then sumF 0 (fun l => if σ.1 (iL 0 l) 1 = o then σ.1 (iL 0 l) 2 else 0) m
    else if ix w = 10 then sumF 0 (fun l => if σ.1 (iL 0 l) 0 = o then σ.1 (iL 0 l) 2 else 0) m
    else f (ix w), σ)
def cLoanOf (σ : fM) (i w : Int32) : Int32 × fM :=
  if wi i 0 (σ.1 (iS 0) 4 - 1) = false then (kBad, σ) else if wi w 0 2 = false then (kBad, σ)
  else (σ.1 (iL 0 (ix i)) (ix w), σ)
/-- the first one, or how many were looked at -/
def fstF (p : Nat → Bool) : Nat → Nat
  | 0 => 0
  | n + 1 => if fstF p n < n then fstF p n else if p n = true then n else n + 1
theorem fstF_le (p : Nat → Bool) : ∀ n, fstF p n ≤ n
  | 0 => Nat.le_refl 0
  | n + 1 => by
    have := fstF_le p n
    unfold fstF
    split
    · omega
    · split <;> omega
theorem fstF_at {p : Nat → Bool} {i : Nat} (h : fstF p i = i) (hp : p i = true) : ∀ {n : Nat}, i < n → fstF p n = i
  | 0, hn => absurd hn (Nat.not_lt_zero i)
  | n + 1, hn => by
    unfold fstF
    by_cases hi : i = n
    · subst hi
      rw [if_neg (by omega), if_pos hp]
    · have ih := fstF_at h hp (n := n) (by omega)
      rw [if_pos (by omega), ih]
theorem fstF_no {p : Nat → Bool} {i : Nat} (h : fstF p i = i) (hp : ¬ p i = true) : fstF p (i + 1) = i + 1 := by
  unfold fstF
  rw [if_neg (by omega), if_neg hp]
def rcF (σ : fM) (n j : Nat) : Int32 := sumF 0 (fun i => if σ.1 (iO 0 j) 2 < σ.1 (iO 0 i) 2 ∨ (σ.1 (iO 0 i) 2 = σ.1 (iO 0 j) 2 ∧ nI i < nI j) then 1 else 0) n
def cRich (σ : fM) (n : Nat) (p : Int32) : Int32 × fM :=
  if ¬ 0 ≤ p then (kBad, σ) else if fstF (fun j => decide (rcF σ n j = p)) n < n then (nI (fstF (fun j => decide (rcF σ n j = p)) n), σ) else (kNone, σ)
def cSays (σ : fM) (n : Nat) (o a : Int32) : Int32 × fM :=
  if wi o 0 (σ.1 (iS 0) 3 - 1) = false then (kBad, σ) else if isA a = false then (kBad, σ)
  else ((fore σ 0 n a).1 (iO 0 (ix o)) 9, fore σ 0 n a)
def cStake (σ : fM) (n : Nat) (o a : Int32) : Int32 × fM :=
  if wi o 0 (σ.1 (iS 0) 3 - 1) = false then (kBad, σ) else if isA a = false then (kBad, σ)
  else ((fore σ 0 n a).1 (iO 0 (ix o)) 10, fore σ 0 n a)
def cGain (σ : fM) (n m : Nat) (o a k : Int32) : Int32 × fM :=
  if wi o 0 (σ.1 (iS 0) 3 - 1) = false then (kBad, σ) else if isA a = false then (kBad, σ) else if wi k 0 1 = false then (kBad, σ)
  else let τ := runM (copyM σ 1 0 n m) 1 n m a k
    (τ.1 (iO 1 (ix o)) 2 - τ.1 (iO 0 (ix o)) 2, τ)
def dmZ (σ : fM) (n m : Nat) (a k : Int32) : Nat → fM × Nat
  | 0 => (copyM σ 1 0 n m, m)
  | i + 1 => (runM (dmZ σ n m a k i).1 1 n (dmZ σ n m a k i).2 a k, runN (dmZ σ n m a k i).1 1 n (dmZ σ n m a k i).2 a k)
def dmP (σ : fM) (n m : Nat) (j : Nat) (a k : Int32) (i : Nat) : Bool := oRuin ((dmZ σ n m a k i).1.1 (iO 1 j))
def cDoom (σ : fM) (n m : Nat) (o a k : Int32) : Int32 × fM :=
  if wi o 0 (σ.1 (iS 0) 3 - 1) = false then (kBad, σ) else if isA a = false then (kBad, σ) else if wi k 0 1 = false then (kBad, σ)
  else if fstF (dmP σ n m (ix o) a k) 101 < 101 then (nI (fstF (dmP σ n m (ix o) a k) 101), (dmZ σ n m a k (fstF (dmP σ n m (ix o) a k) 101)).1) else (kNone, (dmZ σ n m a k 100).1)
theorem dmZ_gst {σ : fM} {n m : Nat} (a k : Int32) (hg : gst σ 0 n m) : ∀ i, gst (dmZ σ n m a k i).1 1 n (dmZ σ n m a k i).2
  | 0 => gst_copy (by decide) hg
  | i + 1 => gst_run a k (dmZ_gst a k hg i)
/-- a row of branches, tried -/
def pbZ (σ : fM) (n m t : Nat) (r a : Int32) : Nat → fM × Nat
  | 0 => (copyM σ 1 0 n m, m)
  | i + 1 => (runM (pbZ σ n m t r a i).1 1 n (pbZ σ n m t r a i).2 a ((r >>> (nI (t - 1 - i) &&& 31)) &&& 1), runN (pbZ σ n m t r a i).1 1 n (pbZ σ n m t r a i).2 a ((r >>> (nI (t - 1 - i) &&& 31)) &&& 1))
theorem pbZ_gst {σ : fM} {n m t : Nat} (r a : Int32) (hg : gst σ 0 n m) : ∀ i, gst (pbZ σ n m t r a i).1 1 n (pbZ σ n m t r a i).2
  | 0 => gst_copy (by decide) hg
  | i + 1 => gst_run a _ (pbZ_gst r a hg i)


/-- a branch tried in one state changes nothing outside it -/
theorem frm2_out {s : Nat} {σ τ : fM} (h : frm2 s σ τ) {k : Nat} (hk : k < 6 + 24 * s ∨ 30 + 24 * s ≤ k) : τ.1 k = σ.1 k := by
  funext j
  exact h.2 k j (fun _ => ⟨fun i hi => by unfold iO; omega, fun l hl => by unfold iL; omega⟩)
theorem fore_out {σ : fM} {s n k : Nat} (a : Int32) (hn : n ≤ 6) (hk : k < 6 + 24 * s ∨ 30 + 24 * s ≤ k) : (fore σ s n a).1 k = σ.1 k := fore_ne a (fun i hi => by unfold iO; omega)
theorem setl_out {σ : fM} {s n m q : Nat} (k : Int32) (hc : cnt σ s n m) (hcr : crd σ s m) (hq : q < 6 + 24 * s ∨ 30 + 24 * s ≤ q) : (setlM σ s n m k).1 q = σ.1 q := by
  have e1 : q ≠ iS s := by unfold iS; omega
  unfold setlM
  split
  · rfl
  · split
    · unfold dropM
      rw [pu_ne _ e1, dropF_ne (fun l hl => by unfold iL; omega) m hc.2.2.2, pu_ne _ e1, frm2_out (setlZ_frm k hc hcr) hq, pu_ne _ e1]
    · rfl
theorem run_out {σ : fM} {s n m q : Nat} (a k : Int32) (hg : gst σ s n m) (hq : q < 6 + 24 * s ∨ 30 + 24 * s ≤ q) : (runM σ s n m a k).1 q = σ.1 q := by
  obtain ⟨hc, hr, -⟩ := hg
  have hn := hc.2.2.1
  have hm := hc.2.2.2
  unfold runM
  rw [learn_ne (fun i hi => by unfold iT; omega) (by unfold iS; omega), setF_ne (fun i hi => by unfold iO; omega), setl_out k (fore_cnt a hc) (fore_crd a hn hm hr) hq, fore_out a hn hq]
theorem dmZ_out {σ : fM} {n m q : Nat} (a k : Int32) (hg : gst σ 0 n m) (hq : q < 30 ∨ 54 ≤ q) : ∀ i, (dmZ σ n m a k i).1.1 q = σ.1 q
  | 0 => copyM_ne hg.1.2.2.1 hg.1.2.2.2 (by omega)
  | i + 1 => by
    show (runM _ 1 n _ a k).1 q = _
    rw [run_out a k (dmZ_gst a k hg i) (by omega), dmZ_out a k hg hq i]
theorem pbZ_out {σ : fM} {n m t q : Nat} (r a : Int32) (hg : gst σ 0 n m) (hq : q < 30 ∨ 54 ≤ q) : ∀ i, (pbZ σ n m t r a i).1.1 q = σ.1 q
  | 0 => copyM_ne hg.1.2.2.1 hg.1.2.2.2 (by omega)
  | i + 1 => by
    show (runM _ 1 n _ a _).1 q = _
    rw [run_out a _ (pbZ_gst r a hg i) (by omega), pbZ_out r a hg hq i]
theorem gst_out {σ τ : fM} {n m : Nat} (hg : gst σ 0 n m) (h : ∀ q, q < 30 → τ.1 q = σ.1 q) : gst τ 0 n m := by
  obtain ⟨⟨hn, hm, hn6, hm8⟩, hr, hd⟩ := hg
  refine ⟨⟨by rw [h _ (by decide)]; exact hn, by rw [h _ (by decide)]; exact hm, hn6, hm8⟩, fun l hl => ?_, fun i hi => ?_⟩
  · rw [h _ (by unfold iL; omega)]; exact hr l hl
  · rw [h _ (by unfold iO; omega)]; exact hd i hi

set_option maxRecDepth 100000 in
set_option maxHeartbeats 4000000 in
theorem ct_X5_counter {l : Launch} {X : fX} {σ : fM} {n m : Nat} (hg : gst σ 0 n m) {o i : Int32} : Ct l X yX5_counter cX5_counter 4 (some .int) 2 [ra X 0, .int o, .int i] σ (some (.int (cCounter σ o i).1)) (cCounter σ o i).2 := by
  refine Ct.of RX5 rfl (by decide) (Nat.le_of_ble_eq_true rfl) ?_
  intro x hL h hr
  refine g_sub [(0, ra X 0), (1, .int o), (2, .int i)] ⟨rfl, rfl, rfl, trivial⟩ ?_
  obtain ⟨hc, hcr, hgd⟩ := id hg
  obtain ⟨hn, hm, hn6, hm8⟩ := id hc
  refine g_aload_n h dX5_counter_0 rfl ?_
  refine g_iload_n h dX5_counter_1 rfl ?_
  refine cl5_71 h  (ct_X5_isOracle ) rfl dX5_counter_2 rfl (Nat.le_of_ble_eq_true rfl) (by decide) ?_
  refine g_ifeqB h 12 dX5_counter_5 (by decide) (fun c5 => ?_) (fun c5 => ?_)
  · refine g_ldc h (-1000001) (lw_in 220 (by decide +kernel) rfl) dX5_counter_12 ?_
    exact g_iret h hr dX5_counter_14 (by first | (simp [cCounter, kBad, kNot, kLim, kNone, ix, hij, c5]; done) | (simp [cCounter, kBad, kNot, kLim, kNone, ix, c5]; done) | (simp_all [cCounter, kBad, kNot, kLim, kNone, ix]; done)) (by first | (simp [cCounter, kBad, kNot, kLim, kNone, ix, hij, c5]; done) | (simp [cCounter, kBad, kNot, kLim, kNone, ix, c5]; done) | (simp_all [cCounter, kBad, kNot, kLim, kNone, ix]; done))
  · obtain ⟨j, hj, rfl⟩ := wi_or (by omega) hn c5
    have hij : (nI j).toNatClampNeg = j := nI_clamp (by omega)
    refine g_iload_n h dX5_counter_8 rfl ?_
    refine g_ifge h 15 dX5_counter_9 (by decide) (fun c9 => ?_) (fun c9 => ?_)
    · refine g_aload_n h dX5_counter_15 rfl ?_
      refine gf5_10 h  dX5_counter_16 ?_
      refine gf5_61 h (by omega) dX5_counter_19 ?_
      refine g_iload_n h dX5_counter_22 rfl ?_
      refine g_aaldO h (by omega) rfl (by omega) dX5_counter_23 ?_
      refine g_astore_n h dX5_counter_24 (by rw [hL]; decide) ?_
      refine g_iload_n h dX5_counter_25 rfl ?_
      refine g_aload_n h dX5_counter_26 rfl ?_
      refine cl5_139 h (by omega) (by omega) (ct_X1_tableSize (by omega) (by omega)) rfl dX5_counter_27 rfl (Nat.le_of_ble_eq_true rfl) (by decide) ?_
      refine g_icge h 42 dX5_counter_30 (by decide) (fun c30 => ?_) (fun c30 => ?_)
      · refine g_ldc h (-1000004) (lw_in 422 (by decide +kernel) rfl) dX5_counter_42 ?_
        exact g_iret h hr dX5_counter_44 (by first | (simp [cCounter, kBad, kNot, kLim, kNone, ix, hij, c5, c9, c30]; done) | (simp [cCounter, kBad, kNot, kLim, kNone, ix, c5, c9, c30]; done) | (simp_all [cCounter, kBad, kNot, kLim, kNone, ix]; done)) (by first | (simp [cCounter, kBad, kNot, kLim, kNone, ix, hij, c5, c9, c30]; done) | (simp [cCounter, kBad, kNot, kLim, kNone, ix, c5, c9, c30]; done) | (simp_all [cCounter, kBad, kNot, kLim, kNone, ix]; done))
      · refine g_aload_n h dX5_counter_33 rfl ?_
        refine gf5_143 h (by omega) (by omega) dX5_counter_34 ?_
        refine g_iload_n h dX5_counter_37 rfl ?_
        refine g_ialdT h (by omega) (by omega) (oSize_le (hgd j (by omega)) c9 c30) dX5_counter_38 ?_
        refine g_goto h 44 dX5_counter_39 (by decide) ?_
        exact g_iret h hr dX5_counter_44 (by first | (simp [cCounter, kBad, kNot, kLim, kNone, ix, hij, c5, c9, c30]; done) | (simp [cCounter, kBad, kNot, kLim, kNone, ix, c5, c9, c30]; done) | (simp_all [cCounter, kBad, kNot, kLim, kNone, ix]; done)) (by first | (simp [cCounter, kBad, kNot, kLim, kNone, ix, hij, c5, c9, c30]; done) | (simp [cCounter, kBad, kNot, kLim, kNone, ix, c5, c9, c30]; done) | (simp_all [cCounter, kBad, kNot, kLim, kNone, ix]; done))
    · refine g_ldc h (-1000001) (lw_in 220 (by decide +kernel) rfl) dX5_counter_12 ?_
      exact g_iret h hr dX5_counter_14 (by first | (simp [cCounter, kBad, kNot, kLim, kNone, ix, hij, c5, c9]; done) | (simp [cCounter, kBad, kNot, kLim, kNone, ix, c5, c9]; done) | (simp_all [cCounter, kBad, kNot, kLim, kNone, ix]; done)) (by first | (simp [cCounter, kBad, kNot, kLim, kNone, ix, hij, c5, c9]; done) | (simp [cCounter, kBad, kNot, kLim, kNone, ix, c5, c9]; done) | (simp_all [cCounter, kBad, kNot, kLim, kNone, ix]; done))
set_option maxRecDepth 100000 in
set_option maxHeartbeats 4000000 in
theorem ct_X5_oracleOf {l : Launch} {X : fX} {σ : fM} {n m : Nat} (hg : gst σ 0 n m) {o w : Int32} : Ct l X yX5_oracleOf cX5_oracleOf 4 (some .int) 2 [ra X 0, .int o, .int w] σ (some (.int (cOracleOf σ n m o w).1)) (cOracleOf σ n m o w).2 := by
  refine Ct.of RX5 rfl (by decide) (Nat.le_of_ble_eq_true rfl) ?_
  intro x hL h hr
  refine g_sub [(0, ra X 0), (1, .int o), (2, .int w)] ⟨rfl, rfl, rfl, trivial⟩ ?_
  obtain ⟨hc, hcr, hgd⟩ := id hg
  obtain ⟨hn, hm, hn6, hm8⟩ := id hc
  refine g_aload_n h dX5_oracleOf_0 rfl ?_
  refine g_iload_n h dX5_oracleOf_1 rfl ?_
  refine cl5_71 h  (ct_X5_isOracle ) rfl dX5_oracleOf_2 rfl (Nat.le_of_ble_eq_true rfl) (by decide) ?_
  refine g_ifeqB h 18 dX5_oracleOf_5 (by decide) (fun c5 => ?_) (fun c5 => ?_)
  · refine g_ldc h (-1000001) (lw_in 220 (by decide +kernel) rfl) dX5_oracleOf_18 ?_
    exact g_iret h hr dX5_oracleOf_20 (by first | (simp [cOracleOf, kBad, kNot, kLim, kNone, ix, hij, c5]; done) | (simp [cOracleOf, kBad, kNot, kLim, kNone, ix, c5]; done) | (simp_all [cOracleOf, kBad, kNot, kLim, kNone, ix]; done)) (by first | (simp [cOracleOf, kBad, kNot, kLim, kNone, ix, hij, c5]; done) | (simp [cOracleOf, kBad, kNot, kLim, kNone, ix, c5]; done) | (simp_all [cOracleOf, kBad, kNot, kLim, kNone, ix]; done))
  · obtain ⟨j, hj, rfl⟩ := wi_or (by omega) hn c5
    have hij : (nI j).toNatClampNeg = j := nI_clamp (by omega)
    refine g_iload_n h dX5_oracleOf_8 rfl ?_
    refine g_iconst (v := 0) h dX5_oracleOf_9 (by decide) ?_
    refine g_bipush (v := 10) h dX5_oracleOf_10 (by decide) ?_
    refine cl5_33 h (ct_X5_isWithin) rfl dX5_oracleOf_12 rfl (Nat.le_of_ble_eq_true rfl) (by decide) ?_
    refine g_ifneB h 21 dX5_oracleOf_15 (by decide) (fun c15 => ?_) (fun c15 => ?_)
    · obtain ⟨w, hw, rfl⟩ := wi_ix (n := 10) (by decide) (by decide) c15
      have hiw : (nI w).toNatClampNeg = w := nI_clamp (by omega)
      refine g_aload_n h dX5_oracleOf_21 rfl ?_
      refine gf5_10 h  dX5_oracleOf_22 ?_
      refine gf5_61 h (by omega) dX5_oracleOf_25 ?_
      refine g_iload_n h dX5_oracleOf_28 rfl ?_
      refine g_aaldO h (by omega) rfl (by omega) dX5_oracleOf_29 ?_
      refine g_astore_n h dX5_oracleOf_30 (by rw [hL]; decide) ?_
      refine g_iload_n h dX5_oracleOf_31 rfl ?_
      rcases (show w = 0 ∨ w = 1 ∨ w = 2 ∨ w = 3 ∨ w = 4 ∨ w = 5 ∨ w = 6 ∨ w = 7 ∨ w = 8 ∨ w = 9 ∨ w = 10 by omega) with rfl | rfl | rfl | rfl | rfl | rfl | rfl | rfl | rfl | rfl | rfl
      · refine g_tsIn h 88 dX5_oracleOf_32 (by decide) (by decide) (by rfl) (by decide) ?_
        refine g_aload_n h dX5_oracleOf_88 rfl ?_
        refine gf5_114 h (by omega) (by omega) dX5_oracleOf_89 ?_
        exact g_iret h hr dX5_oracleOf_92 (by simp [cOracleOf, kBad, kNot, kLim, kNone, ix, hij, hiw, c5, c15]) (by simp [cOracleOf, kBad, kNot, kLim, kNone, ix, hij, hiw, c5, c15])
      · refine g_tsIn h 93 dX5_oracleOf_32 (by decide) (by decide) (by rfl) (by decide) ?_
        refine g_aload_n h dX5_oracleOf_93 rfl ?_
        refine gf5_117 h (by omega) (by omega) dX5_oracleOf_94 ?_
        exact g_iret h hr dX5_oracleOf_97 (by simp [cOracleOf, kBad, kNot, kLim, kNone, ix, hij, hiw, c5, c15]) (by simp [cOracleOf, kBad, kNot, kLim, kNone, ix, hij, hiw, c5, c15])
      · refine g_tsIn h 98 dX5_oracleOf_32 (by decide) (by decide) (by rfl) (by decide) ?_
        refine g_aload_n h dX5_oracleOf_98 rfl ?_
        refine gf5_96 h (by omega) (by omega) dX5_oracleOf_99 ?_
        exact g_iret h hr dX5_oracleOf_102 (by simp [cOracleOf, kBad, kNot, kLim, kNone, ix, hij, hiw, c5, c15]) (by simp [cOracleOf, kBad, kNot, kLim, kNone, ix, hij, hiw, c5, c15])
      · refine g_tsIn h 103 dX5_oracleOf_32 (by decide) (by decide) (by rfl) (by decide) ?_
        refine g_aload_n h dX5_oracleOf_103 rfl ?_
        refine cl5_75 h (by omega) (by omega) (ct_X1_hasSeat (by omega) (by omega)) rfl dX5_oracleOf_104 rfl (Nat.le_of_ble_eq_true rfl) (by decide) ?_
        refine g_ifeqB h 117 dX5_oracleOf_107 (by decide) (fun c107 => ?_) (fun c107 => ?_)
        · refine g_ldc h (-1000004) (lw_in 422 (by decide +kernel) rfl) dX5_oracleOf_117 ?_
          exact g_iret h hr dX5_oracleOf_119 (by simp [cOracleOf, kBad, kNot, kLim, kNone, ix, hij, hiw, c5, c15, c107]) (by simp [cOracleOf, kBad, kNot, kLim, kNone, ix, hij, hiw, c5, c15, c107])
        · refine g_aload_n h dX5_oracleOf_110 rfl ?_
          refine gf5_87 h (by omega) (by omega) dX5_oracleOf_111 ?_
          refine g_goto h 119 dX5_oracleOf_114 (by decide) ?_
          exact g_iret h hr dX5_oracleOf_119 (by simp [cOracleOf, kBad, kNot, kLim, kNone, ix, hij, hiw, c5, c15, c107]) (by simp [cOracleOf, kBad, kNot, kLim, kNone, ix, hij, hiw, c5, c15, c107])
      · refine g_tsIn h 120 dX5_oracleOf_32 (by decide) (by decide) (by rfl) (by decide) ?_
        refine g_aload_n h dX5_oracleOf_120 rfl ?_
        refine cl5_75 h (by omega) (by omega) (ct_X1_hasSeat (by omega) (by omega)) rfl dX5_oracleOf_121 rfl (Nat.le_of_ble_eq_true rfl) (by decide) ?_
        refine g_ifeqB h 134 dX5_oracleOf_124 (by decide) (fun c124 => ?_) (fun c124 => ?_)
        · refine g_ldc h (-1000004) (lw_in 422 (by decide +kernel) rfl) dX5_oracleOf_134 ?_
          exact g_iret h hr dX5_oracleOf_136 (by simp [cOracleOf, kBad, kNot, kLim, kNone, ix, hij, hiw, c5, c15, c124]) (by simp [cOracleOf, kBad, kNot, kLim, kNone, ix, hij, hiw, c5, c15, c124])
        · refine g_aload_n h dX5_oracleOf_127 rfl ?_
          refine gf5_90 h (by omega) (by omega) dX5_oracleOf_128 ?_
          refine g_goto h 136 dX5_oracleOf_131 (by decide) ?_
          exact g_iret h hr dX5_oracleOf_136 (by simp [cOracleOf, kBad, kNot, kLim, kNone, ix, hij, hiw, c5, c15, c124]) (by simp [cOracleOf, kBad, kNot, kLim, kNone, ix, hij, hiw, c5, c15, c124])
      · refine g_tsIn h 137 dX5_oracleOf_32 (by decide) (by decide) (by rfl) (by decide) ?_
        refine g_aload_n h dX5_oracleOf_137 rfl ?_
        refine gf5_121 h (by omega) (by omega) dX5_oracleOf_138 ?_
        exact g_iret h hr dX5_oracleOf_141 (by simp [cOracleOf, kBad, kNot, kLim, kNone, ix, hij, hiw, c5, c15]) (by simp [cOracleOf, kBad, kNot, kLim, kNone, ix, hij, hiw, c5, c15])
      · refine g_tsIn h 142 dX5_oracleOf_32 (by decide) (by decide) (by rfl) (by decide) ?_
        refine g_aload_n h dX5_oracleOf_142 rfl ?_
        refine gf5_124 h (by omega) (by omega) dX5_oracleOf_143 ?_
        exact g_iret h hr dX5_oracleOf_146 (by simp [cOracleOf, kBad, kNot, kLim, kNone, ix, hij, hiw, c5, c15]) (by simp [cOracleOf, kBad, kNot, kLim, kNone, ix, hij, hiw, c5, c15])
      · refine g_tsIn h 147 dX5_oracleOf_32 (by decide) (by decide) (by rfl) (by decide) ?_
        refine g_aload_n h dX5_oracleOf_147 rfl ?_
        refine gf5_127 h (by omega) (by omega) dX5_oracleOf_148 ?_
        exact g_iret h hr dX5_oracleOf_151 (by simp [cOracleOf, kBad, kNot, kLim, kNone, ix, hij, hiw, c5, c15]) (by simp [cOracleOf, kBad, kNot, kLim, kNone, ix, hij, hiw, c5, c15])
      · refine g_tsIn h 152 dX5_oracleOf_32 (by decide) (by decide) (by rfl) (by decide) ?_
        refine g_aload_n h dX5_oracleOf_152 rfl ?_
        refine gf5_130 h (by omega) (by omega) dX5_oracleOf_153 ?_
        exact g_iret h hr dX5_oracleOf_156 (by simp [cOracleOf, kBad, kNot, kLim, kNone, ix, hij, hiw, c5, c15]) (by simp [cOracleOf, kBad, kNot, kLim, kNone, ix, hij, hiw, c5, c15])
      · refine g_tsIn h 157 dX5_oracleOf_32 (by decide) (by decide) (by rfl) (by decide) ?_
        refine g_aload_n h dX5_oracleOf_157 rfl ?_
        refine gf5_10 h  dX5_oracleOf_158 ?_
        refine g_iload_n h dX5_oracleOf_161 rfl ?_
        refine cl5_133 h (by omega) (ct_X3_debtsOf (by decide) hc) rfl dX5_oracleOf_162 rfl (Nat.le_of_ble_eq_true rfl) (by decide) ?_
        exact g_iret h hr dX5_oracleOf_165 (by simp [cOracleOf, kBad, kNot, kLim, kNone, ix, hij, hiw, c5, c15]) (by simp [cOracleOf, kBad, kNot, kLim, kNone, ix, hij, hiw, c5, c15])
      · refine g_tsOut h 166 dX5_oracleOf_32 (Or.inr (by decide)) (by decide) ?_
        refine g_aload_n h dX5_oracleOf_166 rfl ?_
        refine gf5_10 h  dX5_oracleOf_167 ?_
        refine g_iload_n h dX5_oracleOf_170 rfl ?_
        refine cl5_136 h (by omega) (ct_X3_claimsOf (by decide) hc) rfl dX5_oracleOf_171 rfl (Nat.le_of_ble_eq_true rfl) (by decide) ?_
        exact g_iret h hr dX5_oracleOf_174 (by simp [cOracleOf, kBad, kNot, kLim, kNone, ix, hij, hiw, c5, c15]) (by simp [cOracleOf, kBad, kNot, kLim, kNone, ix, hij, hiw, c5, c15])
    · refine g_ldc h (-1000001) (lw_in 220 (by decide +kernel) rfl) dX5_oracleOf_18 ?_
      exact g_iret h hr dX5_oracleOf_20 (by first | (simp [cOracleOf, kBad, kNot, kLim, kNone, ix, hij, c5, c15]; done) | (simp [cOracleOf, kBad, kNot, kLim, kNone, ix, c5, c15]; done) | (simp_all [cOracleOf, kBad, kNot, kLim, kNone, ix]; done)) (by first | (simp [cOracleOf, kBad, kNot, kLim, kNone, ix, hij, c5, c15]; done) | (simp [cOracleOf, kBad, kNot, kLim, kNone, ix, c5, c15]; done) | (simp_all [cOracleOf, kBad, kNot, kLim, kNone, ix]; done))
set_option maxRecDepth 100000 in
set_option maxHeartbeats 4000000 in
theorem ct_X5_loanOf {l : Launch} {X : fX} {σ : fM} {n m : Nat} (hg : gst σ 0 n m) {i w : Int32} : Ct l X yX5_loanOf cX5_loanOf 4 (some .int) 1 [ra X 0, .int i, .int w] σ (some (.int (cLoanOf σ i w).1)) (cLoanOf σ i w).2 := by
  refine Ct.of RX5 rfl (by decide) (Nat.le_of_ble_eq_true rfl) ?_
  intro x hL h hr
  refine g_sub [(0, ra X 0), (1, .int i), (2, .int w)] ⟨rfl, rfl, rfl, trivial⟩ ?_
  obtain ⟨hc, hcr, hgd⟩ := id hg
  obtain ⟨hn, hm, hn6, hm8⟩ := id hc
  refine g_iload_n h dX5_loanOf_0 rfl ?_
  refine g_iconst (v := 0) h dX5_loanOf_1 (by decide) ?_
  refine g_aload_n h dX5_loanOf_2 rfl ?_
  refine gf5_10 h  dX5_loanOf_3 ?_
  refine gf5_100 h (by omega) dX5_loanOf_6 ?_
  refine g_iconst (v := 1) h dX5_loanOf_9 (by decide) ?_
  refine g_isub h dX5_loanOf_10 ?_
  refine cl5_33 h (ct_X5_isWithin) rfl dX5_loanOf_11 rfl (Nat.le_of_ble_eq_true rfl) (by decide) ?_
  refine g_ifeqB h 26 dX5_loanOf_14 (by decide) (fun c14 => ?_) (fun c14 => ?_)
  · refine g_ldc h (-1000001) (lw_in 220 (by decide +kernel) rfl) dX5_loanOf_26 ?_
    exact g_iret h hr dX5_loanOf_28 (by first | (simp [cLoanOf, kBad, kNot, kLim, kNone, ix, hij, c14]; done) | (simp [cLoanOf, kBad, kNot, kLim, kNone, ix, c14]; done) | (simp_all [cLoanOf, kBad, kNot, kLim, kNone, ix]; done)) (by first | (simp [cLoanOf, kBad, kNot, kLim, kNone, ix, hij, c14]; done) | (simp [cLoanOf, kBad, kNot, kLim, kNone, ix, c14]; done) | (simp_all [cLoanOf, kBad, kNot, kLim, kNone, ix]; done))
  · obtain ⟨j, hj, rfl⟩ := wi_or (by omega) hm c14
    have hij : (nI j).toNatClampNeg = j := nI_clamp (by omega)
    refine g_iload_n h dX5_loanOf_17 rfl ?_
    refine g_iconst (v := 0) h dX5_loanOf_18 (by decide) ?_
    refine g_iconst (v := 2) h dX5_loanOf_19 (by decide) ?_
    refine cl5_33 h (ct_X5_isWithin) rfl dX5_loanOf_20 rfl (Nat.le_of_ble_eq_true rfl) (by decide) ?_
    refine g_ifneB h 29 dX5_loanOf_23 (by decide) (fun c23 => ?_) (fun c23 => ?_)
    · obtain ⟨w, hw, rfl⟩ := wi_ix (n := 2) (by decide) (by decide) c23
      have hiw : (nI w).toNatClampNeg = w := nI_clamp (by omega)
      refine g_aload_n h dX5_loanOf_29 rfl ?_
      refine gf5_10 h  dX5_loanOf_30 ?_
      refine gf5_146 h (by omega) dX5_loanOf_33 ?_
      refine g_iload_n h dX5_loanOf_36 rfl ?_
      refine g_aaldL h (by omega) rfl (by omega) dX5_loanOf_37 ?_
      refine g_astore_n h dX5_loanOf_38 (by rw [hL]; decide) ?_
      refine g_iload_n h dX5_loanOf_39 rfl ?_
      rcases (show w = 0 ∨ w = 1 ∨ w = 2 by omega) with rfl | rfl | rfl
      · refine g_lsw h 68 dX5_loanOf_40 (by decide) (off := 28) (by decide) (by decide) ?_
        refine g_aload_n h dX5_loanOf_68 rfl ?_
        refine gf5_150 h (by omega) (by omega) dX5_loanOf_69 ?_
        exact g_iret h hr dX5_loanOf_72 (by simp [cLoanOf, ix, hij, hiw, c14, c23]) (by simp [cLoanOf, ix, hij, hiw, c14, c23])
      · refine g_lsw h 73 dX5_loanOf_40 (by decide) (off := 33) (by decide) (by decide) ?_
        refine g_aload_n h dX5_loanOf_73 rfl ?_
        refine gf5_155 h (by omega) (by omega) dX5_loanOf_74 ?_
        exact g_iret h hr dX5_loanOf_77 (by simp [cLoanOf, ix, hij, hiw, c14, c23]) (by simp [cLoanOf, ix, hij, hiw, c14, c23])
      · refine g_lsw h 78 dX5_loanOf_40 (by decide) (off := 38) (by decide) (by decide) ?_
        refine g_aload_n h dX5_loanOf_78 rfl ?_
        refine gf5_158 h (by omega) (by omega) dX5_loanOf_79 ?_
        exact g_iret h hr dX5_loanOf_82 (by simp [cLoanOf, ix, hij, hiw, c14, c23]) (by simp [cLoanOf, ix, hij, hiw, c14, c23])
    · refine g_ldc h (-1000001) (lw_in 220 (by decide +kernel) rfl) dX5_loanOf_26 ?_
      exact g_iret h hr dX5_loanOf_28 (by first | (simp [cLoanOf, kBad, kNot, kLim, kNone, ix, hij, c14, c23]; done) | (simp [cLoanOf, kBad, kNot, kLim, kNone, ix, c14, c23]; done) | (simp_all [cLoanOf, kBad, kNot, kLim, kNone, ix]; done)) (by first | (simp [cLoanOf, kBad, kNot, kLim, kNone, ix, hij, c14, c23]; done) | (simp [cLoanOf, kBad, kNot, kLim, kNone, ix, c14, c23]; done) | (simp_all [cLoanOf, kBad, kNot, kLim, kNone, ix]; done))
set_option maxRecDepth 100000 in
set_option maxHeartbeats 4000000 in
theorem ct_X5_rich {l : Launch} {X : fX} {σ : fM} {n m : Nat} (hg : gst σ 0 n m) {p : Int32} : Ct l X yX5_rich cX5_rich 3 (some .int) 2 [ra X 0, .int p] σ (some (.int (cRich σ n p).1)) (cRich σ n p).2 := by
  refine Ct.of RX5 rfl (by decide) (Nat.le_of_ble_eq_true rfl) ?_
  intro x hL h hr
  refine g_sub [(0, ra X 0), (1, .int p)] ⟨rfl, rfl, trivial⟩ ?_
  obtain ⟨hc, hcr, hgd⟩ := id hg
  obtain ⟨hn, hm, hn6, hm8⟩ := id hc
  refine g_iload_n h dX5_rich_0 rfl ?_
  refine g_ifge h 7 dX5_rich_1 (by decide) (fun c1 => ?_) (fun c1 => ?_)
  · have LOOP : ∀ (q i : Nat), i + q = n → fstF (fun j => decide (rcF σ n j = p)) i = i → G x X σ [(0, ra X 0), (1, .int p), (2, .int (nI i))] [] 9 := by
      intro q
      induction q with
      | zero =>
        intro i hi hfi
        have hie : i = n := by omega
        rw [hie] at hfi ⊢
        refine g_iload_n h dX5_rich_9 rfl ?_
        refine g_aload_n h dX5_rich_10 rfl ?_
        refine gf5_10 h  dX5_rich_11 ?_
        refine gf5_56 h (by omega) dX5_rich_14 ?_
        refine g_icge h 40 dX5_rich_17 (by decide) (fun c17 => ?_) (fun c17 => absurd (by rw [hn]; exact Int32.le_refl _) c17)
        refine g_ldc h (-1000004) (lw_in 422 (by decide +kernel) rfl) dX5_rich_40 ?_
        exact g_iret h hr dX5_rich_42 (by simp [cRich, c1, hfi, kNone]) (by simp [cRich, c1, hfi, kNone])
      | succ q ih =>
        intro i hi hfi
        have hlt : i < n := by omega
        refine g_iload_n h dX5_rich_9 rfl ?_
        refine g_aload_n h dX5_rich_10 rfl ?_
        refine gf5_10 h  dX5_rich_11 ?_
        refine gf5_56 h (by omega) dX5_rich_14 ?_
        refine g_icge h 40 dX5_rich_17 (by decide) (fun c17 => absurd c17 (by rw [hn]; exact nI_ge hlt (by omega))) (fun c17 => ?_)
        refine g_aload_n h dX5_rich_20 rfl ?_
        refine gf5_10 h  dX5_rich_21 ?_
        refine g_iload_n h dX5_rich_24 rfl ?_
        refine cl5_176 h (by omega) (ct_X3_richerThan (by decide) hc hlt) rfl dX5_rich_25 rfl (Nat.le_of_ble_eq_true rfl) (by decide) ?_
        refine g_iload_n h dX5_rich_28 rfl ?_
        refine g_icne h 34 dX5_rich_29 (by decide) (fun c29 => ?_) (fun c29 => ?_)
        · refine g_iincN h dX5_rich_34 rfl (by rw [hL]; decide) ?_
          refine g_goto h 9 dX5_rich_37 (by decide) ?_
          refine g_sub [(0, ra X 0), (1, .int p), (2, .int (nI (i + 1)))] ⟨rfl, rfl, rfl, trivial⟩ ?_
          exact ih (i + 1) (by omega) (fstF_no hfi (by simp only [decide_eq_true_eq]; exact c29))
        · refine g_iload_n h dX5_rich_32 rfl ?_
          exact g_iret h hr dX5_rich_33 (by have e := fstF_at (p := (fun j => decide (rcF σ n j = p))) hfi (by simp only [decide_eq_true_eq]; exact c29) hlt; simp [cRich, c1, e, hlt]) (by have e := fstF_at (p := (fun j => decide (rcF σ n j = p))) hfi (by simp only [decide_eq_true_eq]; exact c29) hlt; simp [cRich, c1, e, hlt])
    refine g_iconst (v := 0) h dX5_rich_7 (by decide) ?_
    refine g_istore_n h dX5_rich_8 (by rw [hL]; decide) ?_
    refine g_sub [(0, ra X 0), (1, .int p), (2, .int (nI 0))] ⟨rfl, rfl, lk_0, trivial⟩ ?_
    exact LOOP n 0 (by omega) rfl
  · refine g_ldc h (-1000001) (lw_in 220 (by decide +kernel) rfl) dX5_rich_4 ?_
    exact g_iret h hr dX5_rich_6 (by first | (simp [cRich, kBad, kNot, kLim, kNone, ix, hij, c1]; done) | (simp [cRich, kBad, kNot, kLim, kNone, ix, c1]; done) | (simp_all [cRich, kBad, kNot, kLim, kNone, ix]; done)) (by first | (simp [cRich, kBad, kNot, kLim, kNone, ix, hij, c1]; done) | (simp [cRich, kBad, kNot, kLim, kNone, ix, c1]; done) | (simp_all [cRich, kBad, kNot, kLim, kNone, ix]; done))
set_option maxRecDepth 100000 in
set_option maxHeartbeats 4000000 in
theorem ct_X5_says {l : Launch} {X : fX} {σ : fM} {n m : Nat} (hg : gst σ 0 n m) {o a : Int32} : Ct l X yX5_says cX5_says 3 (some .int) 4 [ra X 0, .int o, .int a] σ (some (.int (cSays σ n o a).1)) (cSays σ n o a).2 := by
  refine Ct.of RX5 rfl (by decide) (Nat.le_of_ble_eq_true rfl) ?_
  intro x hL h hr
  refine g_sub [(0, ra X 0), (1, .int o), (2, .int a)] ⟨rfl, rfl, rfl, trivial⟩ ?_
  obtain ⟨hc, hcr, hgd⟩ := id hg
  obtain ⟨hn, hm, hn6, hm8⟩ := id hc
  refine g_aload_n h dX5_says_0 rfl ?_
  refine g_iload_n h dX5_says_1 rfl ?_
  refine cl5_71 h  (ct_X5_isOracle ) rfl dX5_says_2 rfl (Nat.le_of_ble_eq_true rfl) (by decide) ?_
  refine g_ifeqB h 15 dX5_says_5 (by decide) (fun c5 => ?_) (fun c5 => ?_)
  · refine g_ldc h (-1000001) (lw_in 220 (by decide +kernel) rfl) dX5_says_15 ?_
    exact g_iret h hr dX5_says_17 (by first | (simp [cSays, kBad, kNot, kLim, kNone, ix, hij, c5]; done) | (simp [cSays, kBad, kNot, kLim, kNone, ix, c5]; done) | (simp_all [cSays, kBad, kNot, kLim, kNone, ix]; done)) (by first | (simp [cSays, kBad, kNot, kLim, kNone, ix, hij, c5]; done) | (simp [cSays, kBad, kNot, kLim, kNone, ix, c5]; done) | (simp_all [cSays, kBad, kNot, kLim, kNone, ix]; done))
  · obtain ⟨j, hj, rfl⟩ := wi_or (by omega) hn c5
    have hij : (nI j).toNatClampNeg = j := nI_clamp (by omega)
    refine g_iload_n h dX5_says_8 rfl ?_
    refine cl5_107 h (ct_X5_isAddress) rfl dX5_says_9 rfl (Nat.le_of_ble_eq_true rfl) (by decide) ?_
    refine g_ifneB h 18 dX5_says_12 (by decide) (fun c12 => ?_) (fun c12 => ?_)
    · refine g_aload_n h dX5_says_18 rfl ?_
      refine gf5_10 h  dX5_says_19 ?_
      refine g_iload_n h dX5_says_22 rfl ?_
      refine cl5_179 h (by omega) (ct_X3_foretell (by decide) hc hgd) rfl dX5_says_23 rfl (Nat.le_of_ble_eq_true rfl) (by decide) ?_
      refine g_aload_n h dX5_says_26 rfl ?_
      refine gf5_10 h  dX5_says_27 ?_
      refine gf5_61 h (by omega) dX5_says_30 ?_
      refine g_iload_n h dX5_says_33 rfl ?_
      refine g_aaldO h (by omega) rfl (by omega) dX5_says_34 ?_
      refine gf5_183 h (by omega) (by omega) dX5_says_35 ?_
      exact g_iret h hr dX5_says_38 (by first | (simp [cSays, kBad, kNot, kLim, kNone, ix, hij, c5, c12]; done) | (simp [cSays, kBad, kNot, kLim, kNone, ix, c5, c12]; done) | (simp_all [cSays, kBad, kNot, kLim, kNone, ix]; done)) (by first | (simp [cSays, kBad, kNot, kLim, kNone, ix, hij, c5, c12]; done) | (simp [cSays, kBad, kNot, kLim, kNone, ix, c5, c12]; done) | (simp_all [cSays, kBad, kNot, kLim, kNone, ix]; done))
    · refine g_ldc h (-1000001) (lw_in 220 (by decide +kernel) rfl) dX5_says_15 ?_
      exact g_iret h hr dX5_says_17 (by first | (simp [cSays, kBad, kNot, kLim, kNone, ix, hij, c5, c12]; done) | (simp [cSays, kBad, kNot, kLim, kNone, ix, c5, c12]; done) | (simp_all [cSays, kBad, kNot, kLim, kNone, ix]; done)) (by first | (simp [cSays, kBad, kNot, kLim, kNone, ix, hij, c5, c12]; done) | (simp [cSays, kBad, kNot, kLim, kNone, ix, c5, c12]; done) | (simp_all [cSays, kBad, kNot, kLim, kNone, ix]; done))
set_option maxRecDepth 100000 in
set_option maxHeartbeats 4000000 in
theorem ct_X5_stake {l : Launch} {X : fX} {σ : fM} {n m : Nat} (hg : gst σ 0 n m) {o a : Int32} : Ct l X yX5_stake cX5_stake 3 (some .int) 4 [ra X 0, .int o, .int a] σ (some (.int (cStake σ n o a).1)) (cStake σ n o a).2 := by
  refine Ct.of RX5 rfl (by decide) (Nat.le_of_ble_eq_true rfl) ?_
  intro x hL h hr
  refine g_sub [(0, ra X 0), (1, .int o), (2, .int a)] ⟨rfl, rfl, rfl, trivial⟩ ?_
  obtain ⟨hc, hcr, hgd⟩ := id hg
  obtain ⟨hn, hm, hn6, hm8⟩ := id hc
  refine g_aload_n h dX5_stake_0 rfl ?_
  refine g_iload_n h dX5_stake_1 rfl ?_
  refine cl5_71 h  (ct_X5_isOracle ) rfl dX5_stake_2 rfl (Nat.le_of_ble_eq_true rfl) (by decide) ?_
  refine g_ifeqB h 15 dX5_stake_5 (by decide) (fun c5 => ?_) (fun c5 => ?_)
  · refine g_ldc h (-1000001) (lw_in 220 (by decide +kernel) rfl) dX5_stake_15 ?_
    exact g_iret h hr dX5_stake_17 (by first | (simp [cStake, kBad, kNot, kLim, kNone, ix, hij, c5]; done) | (simp [cStake, kBad, kNot, kLim, kNone, ix, c5]; done) | (simp_all [cStake, kBad, kNot, kLim, kNone, ix]; done)) (by first | (simp [cStake, kBad, kNot, kLim, kNone, ix, hij, c5]; done) | (simp [cStake, kBad, kNot, kLim, kNone, ix, c5]; done) | (simp_all [cStake, kBad, kNot, kLim, kNone, ix]; done))
  · obtain ⟨j, hj, rfl⟩ := wi_or (by omega) hn c5
    have hij : (nI j).toNatClampNeg = j := nI_clamp (by omega)
    refine g_iload_n h dX5_stake_8 rfl ?_
    refine cl5_107 h (ct_X5_isAddress) rfl dX5_stake_9 rfl (Nat.le_of_ble_eq_true rfl) (by decide) ?_
    refine g_ifneB h 18 dX5_stake_12 (by decide) (fun c12 => ?_) (fun c12 => ?_)
    · refine g_aload_n h dX5_stake_18 rfl ?_
      refine gf5_10 h  dX5_stake_19 ?_
      refine g_iload_n h dX5_stake_22 rfl ?_
      refine cl5_179 h (by omega) (ct_X3_foretell (by decide) hc hgd) rfl dX5_stake_23 rfl (Nat.le_of_ble_eq_true rfl) (by decide) ?_
      refine g_aload_n h dX5_stake_26 rfl ?_
      refine gf5_10 h  dX5_stake_27 ?_
      refine gf5_61 h (by omega) dX5_stake_30 ?_
      refine g_iload_n h dX5_stake_33 rfl ?_
      refine g_aaldO h (by omega) rfl (by omega) dX5_stake_34 ?_
      refine gf5_186 h (by omega) (by omega) dX5_stake_35 ?_
      exact g_iret h hr dX5_stake_38 (by first | (simp [cStake, kBad, kNot, kLim, kNone, ix, hij, c5, c12]; done) | (simp [cStake, kBad, kNot, kLim, kNone, ix, c5, c12]; done) | (simp_all [cStake, kBad, kNot, kLim, kNone, ix]; done)) (by first | (simp [cStake, kBad, kNot, kLim, kNone, ix, hij, c5, c12]; done) | (simp [cStake, kBad, kNot, kLim, kNone, ix, c5, c12]; done) | (simp_all [cStake, kBad, kNot, kLim, kNone, ix]; done))
    · refine g_ldc h (-1000001) (lw_in 220 (by decide +kernel) rfl) dX5_stake_15 ?_
      exact g_iret h hr dX5_stake_17 (by first | (simp [cStake, kBad, kNot, kLim, kNone, ix, hij, c5, c12]; done) | (simp [cStake, kBad, kNot, kLim, kNone, ix, c5, c12]; done) | (simp_all [cStake, kBad, kNot, kLim, kNone, ix]; done)) (by first | (simp [cStake, kBad, kNot, kLim, kNone, ix, hij, c5, c12]; done) | (simp [cStake, kBad, kNot, kLim, kNone, ix, c5, c12]; done) | (simp_all [cStake, kBad, kNot, kLim, kNone, ix]; done))
set_option maxRecDepth 100000 in
set_option maxHeartbeats 4000000 in
theorem ct_X5_gain {l : Launch} {X : fX} {σ : fM} {n m : Nat} (hg : gst σ 0 n m) {o a k : Int32} : Ct l X yX5_gain cX5_gain 4 (some .int) 5 [ra X 0, .int o, .int a, .int k] σ (some (.int (cGain σ n m o a k).1)) (cGain σ n m o a k).2 := by
  refine Ct.of RX5 rfl (by decide) (Nat.le_of_ble_eq_true rfl) ?_
  intro x hL h hr
  refine g_sub [(0, ra X 0), (1, .int o), (2, .int a), (3, .int k)] ⟨rfl, rfl, rfl, rfl, trivial⟩ ?_
  obtain ⟨hc, hcr, hgd⟩ := id hg
  obtain ⟨hn, hm, hn6, hm8⟩ := id hc
  refine g_aload_n h dX5_gain_0 rfl ?_
  refine g_iload_n h dX5_gain_1 rfl ?_
  refine cl5_71 h  (ct_X5_isOracle ) rfl dX5_gain_2 rfl (Nat.le_of_ble_eq_true rfl) (by decide) ?_
  refine g_ifeqB h 24 dX5_gain_5 (by decide) (fun c5 => ?_) (fun c5 => ?_)
  · refine g_ldc h (-1000001) (lw_in 220 (by decide +kernel) rfl) dX5_gain_24 ?_
    exact g_iret h hr dX5_gain_26 (by first | (simp [cGain, kBad, kNot, kLim, kNone, ix, hij, c5]; done) | (simp [cGain, kBad, kNot, kLim, kNone, ix, c5]; done) | (simp_all [cGain, kBad, kNot, kLim, kNone, ix]; done)) (by first | (simp [cGain, kBad, kNot, kLim, kNone, ix, hij, c5]; done) | (simp [cGain, kBad, kNot, kLim, kNone, ix, c5]; done) | (simp_all [cGain, kBad, kNot, kLim, kNone, ix]; done))
  · obtain ⟨j, hj, rfl⟩ := wi_or (by omega) hn c5
    have hij : (nI j).toNatClampNeg = j := nI_clamp (by omega)
    refine g_iload_n h dX5_gain_8 rfl ?_
    refine cl5_107 h (ct_X5_isAddress) rfl dX5_gain_9 rfl (Nat.le_of_ble_eq_true rfl) (by decide) ?_
    refine g_ifeqB h 24 dX5_gain_12 (by decide) (fun c12 => ?_) (fun c12 => ?_)
    · refine g_ldc h (-1000001) (lw_in 220 (by decide +kernel) rfl) dX5_gain_24 ?_
      exact g_iret h hr dX5_gain_26 (by first | (simp [cGain, kBad, kNot, kLim, kNone, ix, hij, c5, c12]; done) | (simp [cGain, kBad, kNot, kLim, kNone, ix, c5, c12]; done) | (simp_all [cGain, kBad, kNot, kLim, kNone, ix]; done)) (by first | (simp [cGain, kBad, kNot, kLim, kNone, ix, hij, c5, c12]; done) | (simp [cGain, kBad, kNot, kLim, kNone, ix, c5, c12]; done) | (simp_all [cGain, kBad, kNot, kLim, kNone, ix]; done))
    · refine g_iload_n h dX5_gain_15 rfl ?_
      refine g_iconst (v := 0) h dX5_gain_16 (by decide) ?_
      refine g_iconst (v := 1) h dX5_gain_17 (by decide) ?_
      refine cl5_33 h (ct_X5_isWithin) rfl dX5_gain_18 rfl (Nat.le_of_ble_eq_true rfl) (by decide) ?_
      refine g_ifneB h 27 dX5_gain_21 (by decide) (fun c21 => ?_) (fun c21 => ?_)
      · have hgc := gst_copy (s := 1) (s2 := 0) (by decide) hg
        refine g_aload_n h dX5_gain_27 rfl ?_
        refine gf5_16 h  dX5_gain_28 ?_
        refine g_aload_n h dX5_gain_31 rfl ?_
        refine gf5_10 h  dX5_gain_32 ?_
        refine cl5_192 h (by omega) (ct_X3_copyFrom (by decide) (by decide) (by decide) hc) rfl dX5_gain_35 rfl (Nat.le_of_ble_eq_true rfl) (by decide) ?_
        refine g_aload_n h dX5_gain_38 rfl ?_
        refine gf5_16 h  dX5_gain_39 ?_
        refine g_iload_n h dX5_gain_42 rfl ?_
        refine g_iload_n h dX5_gain_43 rfl ?_
        refine cl5_110 h (by omega) (ct_X3_runBranch (by decide) hgc.1 hgc.2.1 hgc.2.2) rfl dX5_gain_44 rfl (Nat.le_of_ble_eq_true rfl) (by decide) ?_
        refine g_pop h dX5_gain_47 rfl ?_
        refine g_aload_n h dX5_gain_48 rfl ?_
        refine gf5_16 h  dX5_gain_49 ?_
        refine gf5_61 h (by omega) dX5_gain_52 ?_
        refine g_iload_n h dX5_gain_55 rfl ?_
        refine g_aaldO h (by omega) rfl (by omega) dX5_gain_56 ?_
        refine gf5_96 h (by omega) (by omega) dX5_gain_57 ?_
        refine g_aload_n h dX5_gain_60 rfl ?_
        refine gf5_10 h  dX5_gain_61 ?_
        refine gf5_61 h (by omega) dX5_gain_64 ?_
        refine g_iload_n h dX5_gain_67 rfl ?_
        refine g_aaldO h (by omega) rfl (by omega) dX5_gain_68 ?_
        refine gf5_96 h (by omega) (by omega) dX5_gain_69 ?_
        refine g_isub h dX5_gain_72 ?_
        exact g_iret h hr dX5_gain_73 (by first | (simp [cGain, kBad, kNot, kLim, kNone, ix, hij, c5, c12, c21]; done) | (simp [cGain, kBad, kNot, kLim, kNone, ix, c5, c12, c21]; done) | (simp_all [cGain, kBad, kNot, kLim, kNone, ix]; done)) (by first | (simp [cGain, kBad, kNot, kLim, kNone, ix, hij, c5, c12, c21]; done) | (simp [cGain, kBad, kNot, kLim, kNone, ix, c5, c12, c21]; done) | (simp_all [cGain, kBad, kNot, kLim, kNone, ix]; done))
      · refine g_ldc h (-1000001) (lw_in 220 (by decide +kernel) rfl) dX5_gain_24 ?_
        exact g_iret h hr dX5_gain_26 (by first | (simp [cGain, kBad, kNot, kLim, kNone, ix, hij, c5, c12, c21]; done) | (simp [cGain, kBad, kNot, kLim, kNone, ix, c5, c12, c21]; done) | (simp_all [cGain, kBad, kNot, kLim, kNone, ix]; done)) (by first | (simp [cGain, kBad, kNot, kLim, kNone, ix, hij, c5, c12, c21]; done) | (simp [cGain, kBad, kNot, kLim, kNone, ix, c5, c12, c21]; done) | (simp_all [cGain, kBad, kNot, kLim, kNone, ix]; done))
set_option maxRecDepth 100000 in
set_option maxHeartbeats 4000000 in
theorem ct_X5_doom {l : Launch} {X : fX} {σ : fM} {n m : Nat} (hg : gst σ 0 n m) {o a k : Int32} : Ct l X yX5_doom cX5_doom 6 (some .int) 5 [ra X 0, .int o, .int a, .int k] σ (some (.int (cDoom σ n m o a k).1)) (cDoom σ n m o a k).2 := by
  refine Ct.of RX5 rfl (by decide) (Nat.le_of_ble_eq_true rfl) ?_
  intro x hL h hr
  refine g_sub [(0, ra X 0), (1, .int o), (2, .int a), (3, .int k)] ⟨rfl, rfl, rfl, rfl, trivial⟩ ?_
  obtain ⟨hc, hcr, hgd⟩ := id hg
  obtain ⟨hn, hm, hn6, hm8⟩ := id hc
  refine g_aload_n h dX5_doom_0 rfl ?_
  refine g_iload_n h dX5_doom_1 rfl ?_
  refine cl5_71 h  (ct_X5_isOracle ) rfl dX5_doom_2 rfl (Nat.le_of_ble_eq_true rfl) (by decide) ?_
  refine g_ifeqB h 24 dX5_doom_5 (by decide) (fun c5 => ?_) (fun c5 => ?_)
  · refine g_ldc h (-1000001) (lw_in 220 (by decide +kernel) rfl) dX5_doom_24 ?_
    exact g_iret h hr dX5_doom_26 (by first | (simp [cDoom, kBad, kNot, kLim, kNone, ix, hij, c5]; done) | (simp [cDoom, kBad, kNot, kLim, kNone, ix, c5]; done) | (simp_all [cDoom, kBad, kNot, kLim, kNone, ix]; done)) (by first | (simp [cDoom, kBad, kNot, kLim, kNone, ix, hij, c5]; done) | (simp [cDoom, kBad, kNot, kLim, kNone, ix, c5]; done) | (simp_all [cDoom, kBad, kNot, kLim, kNone, ix]; done))
  · obtain ⟨j, hj, rfl⟩ := wi_or (by omega) hn c5
    have hij : (nI j).toNatClampNeg = j := nI_clamp (by omega)
    refine g_iload_n h dX5_doom_8 rfl ?_
    refine cl5_107 h (ct_X5_isAddress) rfl dX5_doom_9 rfl (Nat.le_of_ble_eq_true rfl) (by decide) ?_
    refine g_ifeqB h 24 dX5_doom_12 (by decide) (fun c12 => ?_) (fun c12 => ?_)
    · refine g_ldc h (-1000001) (lw_in 220 (by decide +kernel) rfl) dX5_doom_24 ?_
      exact g_iret h hr dX5_doom_26 (by first | (simp [cDoom, kBad, kNot, kLim, kNone, ix, hij, c5, c12]; done) | (simp [cDoom, kBad, kNot, kLim, kNone, ix, c5, c12]; done) | (simp_all [cDoom, kBad, kNot, kLim, kNone, ix]; done)) (by first | (simp [cDoom, kBad, kNot, kLim, kNone, ix, hij, c5, c12]; done) | (simp [cDoom, kBad, kNot, kLim, kNone, ix, c5, c12]; done) | (simp_all [cDoom, kBad, kNot, kLim, kNone, ix]; done))
    · refine g_iload_n h dX5_doom_15 rfl ?_
      refine g_iconst (v := 0) h dX5_doom_16 (by decide) ?_
      refine g_iconst (v := 1) h dX5_doom_17 (by decide) ?_
      refine cl5_33 h (ct_X5_isWithin) rfl dX5_doom_18 rfl (Nat.le_of_ble_eq_true rfl) (by decide) ?_
      refine g_ifneB h 27 dX5_doom_21 (by decide) (fun c21 => ?_) (fun c21 => ?_)
      · have LOOP : ∀ (q i : Nat), i + q = 100 → fstF (dmP σ n m j a k) i = i → G x X (dmZ σ n m a k i).1 [(0, ra X 0), (2, .int a), (3, .int k), (4, ra X (iO 1 j)), (5, .int (nI i))] [] 52 := by
          intro q
          induction q with
          | zero =>
            intro i hi hfi
            have hie : i = 100 := by omega
            rw [hie] at hfi ⊢
            refine g_iload h dX5_doom_52 rfl ?_
            refine g_bipush (v := 100) h dX5_doom_54 (by decide) ?_
            refine g_icge h 86 dX5_doom_56 (by decide) (fun c56 => ?_) (fun c56 => absurd (Int32.le_refl _) c56)
            refine g_aload h dX5_doom_86 rfl ?_
            refine cl5_195 h (by omega) (by omega) (ct_X1_isRuined (by omega) (by omega)) rfl dX5_doom_88 rfl (Nat.le_of_ble_eq_true rfl) (by decide) ?_
            refine g_ifeqB h 99 dX5_doom_91 (by decide) (fun c91 => ?_) (fun c91 => ?_)
            · refine g_ldc h (-1000004) (lw_in 422 (by decide +kernel) rfl) dX5_doom_99 ?_
              exact g_iret h hr dX5_doom_101 (by first | (have e := fstF_at (p := (dmP σ n m j a k)) hfi c91 (show 100 < 101 by decide); simp [cDoom, c5, c12, c21, ix, hij, e]; try decide) | (have e := fstF_no (p := (dmP σ n m j a k)) hfi (by unfold dmP; rw [c91]; decide); simp [cDoom, c5, c12, c21, ix, hij, e, kNone])) (by first | (have e := fstF_at (p := (dmP σ n m j a k)) hfi c91 (show 100 < 101 by decide); simp [cDoom, c5, c12, c21, ix, hij, e]; try decide) | (have e := fstF_no (p := (dmP σ n m j a k)) hfi (by unfold dmP; rw [c91]; decide); simp [cDoom, c5, c12, c21, ix, hij, e, kNone]))
            · refine g_bipush (v := 100) h dX5_doom_94 (by decide) ?_
              refine g_goto h 101 dX5_doom_96 (by decide) ?_
              exact g_iret h hr dX5_doom_101 (by first | (have e := fstF_at (p := (dmP σ n m j a k)) hfi c91 (show 100 < 101 by decide); simp [cDoom, c5, c12, c21, ix, hij, e]; try decide) | (have e := fstF_no (p := (dmP σ n m j a k)) hfi (by unfold dmP; rw [c91]; decide); simp [cDoom, c5, c12, c21, ix, hij, e, kNone])) (by first | (have e := fstF_at (p := (dmP σ n m j a k)) hfi c91 (show 100 < 101 by decide); simp [cDoom, c5, c12, c21, ix, hij, e]; try decide) | (have e := fstF_no (p := (dmP σ n m j a k)) hfi (by unfold dmP; rw [c91]; decide); simp [cDoom, c5, c12, c21, ix, hij, e, kNone]))
          | succ q ih =>
            intro i hi hfi
            have hlt : i < 100 := by omega
            have hgi := dmZ_gst a k hg i
            refine g_iload h dX5_doom_52 rfl ?_
            refine g_bipush (v := 100) h dX5_doom_54 (by decide) ?_
            refine g_icge h 86 dX5_doom_56 (by decide) (fun c56 => absurd c56 (nI_ge (b := 100) hlt (by decide))) (fun c56 => ?_)
            refine g_aload h dX5_doom_59 rfl ?_
            refine cl5_195 h (by omega) (by omega) (ct_X1_isRuined (by omega) (by omega)) rfl dX5_doom_61 rfl (Nat.le_of_ble_eq_true rfl) (by decide) ?_
            refine g_ifeqB h 70 dX5_doom_64 (by decide) (fun c64 => ?_) (fun c64 => ?_)
            · refine g_aload_n h dX5_doom_70 rfl ?_
              refine gf5_16 h  dX5_doom_71 ?_
              refine g_iload_n h dX5_doom_74 rfl ?_
              refine g_iload_n h dX5_doom_75 rfl ?_
              refine cl5_110 h (by omega) (ct_X3_runBranch (by decide) hgi.1 hgi.2.1 hgi.2.2) rfl dX5_doom_76 rfl (Nat.le_of_ble_eq_true rfl) (by decide) ?_
              refine g_pop h dX5_doom_79 rfl ?_
              refine g_iincN h dX5_doom_80 rfl (by rw [hL]; decide) ?_
              refine g_goto h 52 dX5_doom_83 (by decide) ?_
              refine g_mem (dmZ σ n m a k (i + 1)).1 rfl ?_
              refine g_sub [(0, ra X 0), (2, .int a), (3, .int k), (4, ra X (iO 1 j)), (5, .int (nI (i + 1)))] ⟨rfl, rfl, rfl, rfl, rfl, trivial⟩ ?_
              exact ih (i + 1) (by omega) (fstF_no hfi (by unfold dmP; rw [c64]; decide))
            · refine g_iload h dX5_doom_67 rfl ?_
              exact g_iret h hr dX5_doom_69 (by have e := fstF_at (p := (dmP σ n m j a k)) hfi c64 (show i < 101 by omega); simp [cDoom, c5, c12, c21, ix, hij, e, show i < 101 by omega]) (by have e := fstF_at (p := (dmP σ n m j a k)) hfi c64 (show i < 101 by omega); simp [cDoom, c5, c12, c21, ix, hij, e, show i < 101 by omega])
        refine g_aload_n h dX5_doom_27 rfl ?_
        refine gf5_16 h  dX5_doom_28 ?_
        refine g_aload_n h dX5_doom_31 rfl ?_
        refine gf5_10 h  dX5_doom_32 ?_
        refine cl5_192 h (by omega) (ct_X3_copyFrom (by decide) (by decide) (by decide) hc) rfl dX5_doom_35 rfl (Nat.le_of_ble_eq_true rfl) (by decide) ?_
        refine g_aload_n h dX5_doom_38 rfl ?_
        refine gf5_16 h  dX5_doom_39 ?_
        refine gf5_61 h (by omega) dX5_doom_42 ?_
        refine g_iload_n h dX5_doom_45 rfl ?_
        refine g_aaldO h (by omega) rfl (by omega) dX5_doom_46 ?_
        refine g_astore h dX5_doom_47 (by rw [hL]; decide) ?_
        refine g_iconst (v := 0) h dX5_doom_49 (by decide) ?_
        refine g_istore h dX5_doom_50 (by rw [hL]; decide) ?_
        refine g_mem (dmZ σ n m a k 0).1 rfl ?_
        refine g_sub [(0, ra X 0), (2, .int a), (3, .int k), (4, ra X (iO 1 j)), (5, .int (nI 0))] ⟨rfl, rfl, rfl, rfl, lk_0, trivial⟩ ?_
        exact LOOP 100 0 (by omega) rfl
      · refine g_ldc h (-1000001) (lw_in 220 (by decide +kernel) rfl) dX5_doom_24 ?_
        exact g_iret h hr dX5_doom_26 (by first | (simp [cDoom, kBad, kNot, kLim, kNone, ix, hij, c5, c12, c21]; done) | (simp [cDoom, kBad, kNot, kLim, kNone, ix, c5, c12, c21]; done) | (simp_all [cDoom, kBad, kNot, kLim, kNone, ix]; done)) (by first | (simp [cDoom, kBad, kNot, kLim, kNone, ix, hij, c5, c12, c21]; done) | (simp [cDoom, kBad, kNot, kLim, kNone, ix, c5, c12, c21]; done) | (simp_all [cDoom, kBad, kNot, kLim, kNone, ix]; done))
end
section
/-! the root: rows of branches, counts, undo, typing -/
theorem nI_m1 (y : Nat) : nI y + Int32.ofInt (-1) = nI y - 1 := by rw [Int32.sub_eq_add_neg]; rfl
theorem shl1 : ∀ t, t ≤ 5 → (1 : Int32) <<< (nI t &&& 31) = nI (2 ^ t) := by decide +kernel
def brZ (σ : fM) (n m t : Nat) (a : Int32) (j : Nat) : Nat → fM × Int32 × Int32
  | 0 => (σ, 0, -1)
  | r + 1 => let z := brZ σ n m t a j r
    let y := pbZ z.1 n m t (nI r) a t
    let p := y.1.1 (iO 1 j) 2
    (y.1, if p ≤ z.2.2 then z.2.1 else nI r, if p ≤ z.2.2 then z.2.2 else p)
theorem brZ_out {σ : fM} {n m t j q : Nat} (a : Int32) (hg : gst σ 0 n m) (hq : q < 30 ∨ 54 ≤ q) : ∀ r, (brZ σ n m t a j r).1.1 q = σ.1 q ∧ gst (brZ σ n m t a j r).1 0 n m
  | 0 => ⟨rfl, hg⟩
  | r + 1 => by
    have hgr := (brZ_out (t := t) (j := j) a hg hq r).2
    refine ⟨?_, ?_⟩
    · show (pbZ _ n m t (nI r) a t).1.1 q = _
      rw [pbZ_out _ a hgr hq t]
      exact (brZ_out a hg hq r).1
    · exact gst_out hgr (fun q hq => by
        show (pbZ _ n m t (nI r) a t).1.1 q = _
        rw [pbZ_out _ a hgr (Or.inl hq) t])
def cBest (σ : fM) (n m : Nat) (o a t w : Int32) : Int32 × fM :=
  if wi o 0 (σ.1 (iS 0) 3 - 1) = false then (kBad, σ) else if isA a = false then (kBad, σ) else if wi t 1 5 = false then (kBad, σ) else if wi w 0 1 = false then (kBad, σ)
  else let z := brZ σ n m (ix t) a (ix o) (2 ^ ix t)
    (if w = 0 then z.2.1 else z.2.2, z.1)
def cCount (σ : fM) (n : Nat) (w : Int32) : Int32 × fM :=
  (if wi w 20 22 = true then σ.1 (iSet 0) (ix w - 20) else if wi w 0 10 = false then kBad else
    if ix w = 0 then σ.1 (iS 0) 3 else if ix w = 1 then sumF 0 (fun i => if oSeat (σ.1 (iO 0 i)) = true then 1 else 0) n
    else if ix w = 2 then sumF 0 (fun i => if oRuin (σ.1 (iO 0 i)) = true then 1 else 0) n else if ix w = 3 then σ.1 (iS 0) 5
    else if ix w = 4 then sumF (σ.1 (iS 0) 5) (fun i => σ.1 (iO 0 i) 2) n else if ix w = 5 then σ.1 (iS 0) 6 else if ix w = 6 then σ.1 (iS 0) 7
    else if ix w = 7 then σ.1 (iS 0) 8 else if ix w = 8 then σ.1 (iS 0) 4 else if ix w = 9 then σ.1 1 2 else σ.1 3 2, σ)
theorem wi_out {w : Int32} (h : wi w 0 10 = false) : w.toInt < 0 ∨ 10 < w.toInt := by
  by_cases h1 : w < 0
  · exact Or.inl (by have := Int32.lt_iff_toInt_lt.mp h1; simpa using this)
  · by_cases h2 : 10 < w
    · exact Or.inr (by have := Int32.lt_iff_toInt_lt.mp h2; simpa using this)
    · exact absurd (wi_of.mpr ⟨h1, h2⟩) (by rw [h]; decide)
theorem wi_20 {w : Int32} (h : wi w 20 22 = true) : ∃ v : Nat, v < 3 ∧ w = nI (v + 20) := by
  obtain ⟨h1, h2⟩ := wi_of.mp h
  obtain ⟨j, hj, e⟩ := nI_of (fun q => h1 (Int32.lt_of_lt_of_le q (by decide)))
  subst e
  have a1 : 20 ≤ j := Nat.not_lt.mp (fun q => h1 (nI_lt (b := 20) q (by decide)))
  have a2 : j ≤ 22 := Nat.not_lt.mp (fun q => h2 (nI_lt (a := 22) q hj))
  exact ⟨j - 20, by omega, by rw [show j - 20 + 20 = j by omega]⟩
theorem sub20 : ∀ v, v < 3 → nI (v + 20) - 20 = nI v := by decide +kernel

set_option maxRecDepth 100000 in
set_option maxHeartbeats 4000000 in
theorem ct_X5_purseBehind {l : Launch} {X : fX} {σ : fM} {n m : Nat} (hg : gst σ 0 n m) {t j : Nat} (ht : t ≤ 5) (hj : j < n) {r a : Int32} : Ct l X yX5_purseBehind cX5_purseBehind 6 (some .int) 5 [ra X 0, .int r, .int (nI j), .int a, .int (nI t)] σ (some (.int ((pbZ σ n m t r a t).1.1 (iO 1 j) 2))) (pbZ σ n m t r a t).1 := by
  refine Ct.of RX5 rfl (by decide) (Nat.le_of_ble_eq_true rfl) ?_
  intro x hL h hr
  refine g_sub [(0, ra X 0), (1, .int r), (2, .int (nI j)), (3, .int a), (4, .int (nI t))] ⟨rfl, rfl, rfl, rfl, rfl, trivial⟩ ?_
  obtain ⟨hc, hcr, hgd⟩ := id hg
  obtain ⟨hn, hm, hn6, hm8⟩ := id hc
  have LOOP : ∀ (q i : Nat), i + q = t → G x X (pbZ σ n m t r a i).1 [(0, ra X 0), (1, .int r), (2, .int (nI j)), (3, .int a), (5, .int (nI (t - i) - 1))] [] 17 := by
    intro q
    induction q with
    | zero =>
      intro i hi 
      have hie : i = t := by omega
      rw [hie]
      refine g_iload h dX5_purseBehind_17 rfl ?_
      refine g_iflt h 43 dX5_purseBehind_19 (by decide) (fun c19 => ?_) (fun c19 => absurd (by rw [Nat.sub_self]; decide) c19)
      refine g_aload_n h dX5_purseBehind_43 rfl ?_
      refine gf5_16 h  dX5_purseBehind_44 ?_
      refine gf5_61 h (by omega) dX5_purseBehind_47 ?_
      refine g_iload_n h dX5_purseBehind_50 rfl ?_
      refine g_aaldO h (by omega) rfl (by omega) dX5_purseBehind_51 ?_
      refine gf5_96 h (by omega) (by omega) dX5_purseBehind_52 ?_
      exact g_iret h hr dX5_purseBehind_55 rfl rfl
    | succ q ih =>
      intro i hi 
      have hlt : i < t := by omega
      have hgi := pbZ_gst (t := t) r a hg i
      have ey : t - i = (t - 1 - i) + 1 := by omega
      refine g_iload h dX5_purseBehind_17 rfl ?_
      refine g_iflt h 43 dX5_purseBehind_19 (by decide) (fun c19 => absurd c19 (by rw [ey, nI_pred]; exact nI_pos (by omega))) (fun c19 => ?_)
      refine g_aload_n h dX5_purseBehind_22 rfl ?_
      refine gf5_16 h  dX5_purseBehind_23 ?_
      refine g_iload_n h dX5_purseBehind_26 rfl ?_
      refine g_iload_n h dX5_purseBehind_27 rfl ?_
      refine g_iload h dX5_purseBehind_28 rfl ?_
      refine g_ishr h dX5_purseBehind_30 ?_
      refine g_iconst (v := 1) h dX5_purseBehind_31 (by decide) ?_
      refine g_iand h dX5_purseBehind_32 ?_
      refine cl5_110 h (by omega) (ct_X3_runBranch (by decide) hgi.1 hgi.2.1 hgi.2.2) rfl dX5_purseBehind_33 rfl (Nat.le_of_ble_eq_true rfl) (by decide) ?_
      refine g_pop h dX5_purseBehind_36 rfl ?_
      refine g_iinc h dX5_purseBehind_37 rfl (by rw [hL]; decide) ?_
      refine g_goto h 17 dX5_purseBehind_40 (by decide) ?_
      refine g_mem (pbZ σ n m t r a (i + 1)).1 (by rw [ey, nI_pred]; rfl) ?_
      refine g_sub [(0, ra X 0), (1, .int r), (2, .int (nI j)), (3, .int a), (5, .int (nI (t - (i + 1)) - 1))] ⟨rfl, rfl, rfl, rfl, (congrArg (fun z => some (Value.int z)) (by rw [ey, nI_pred, show t - (i + 1) = t - 1 - i by omega]; exact nI_m1 _)), trivial⟩ ?_
      exact ih (i + 1) (by omega)
  refine g_aload_n h dX5_purseBehind_0 rfl ?_
  refine gf5_16 h  dX5_purseBehind_1 ?_
  refine g_aload_n h dX5_purseBehind_4 rfl ?_
  refine gf5_10 h  dX5_purseBehind_5 ?_
  refine cl5_192 h (by omega) (ct_X3_copyFrom (by decide) (by decide) (by decide) hc) rfl dX5_purseBehind_8 rfl (Nat.le_of_ble_eq_true rfl) (by decide) ?_
  refine g_iload h dX5_purseBehind_11 rfl ?_
  refine g_iconst (v := 1) h dX5_purseBehind_13 (by decide) ?_
  refine g_isub h dX5_purseBehind_14 ?_
  refine g_istore h dX5_purseBehind_15 (by rw [hL]; decide) ?_
  refine g_mem (pbZ σ n m t r a 0).1 rfl ?_
  refine g_sub [(0, ra X 0), (1, .int r), (2, .int (nI j)), (3, .int a), (5, .int (nI (t - 0) - 1))] ⟨rfl, rfl, rfl, rfl, rfl, trivial⟩ ?_
  exact LOOP t 0 (by omega)
set_option maxRecDepth 100000 in
set_option maxHeartbeats 4000000 in
theorem ct_X5_bestRow {l : Launch} {X : fX} {σ : fM} {n m : Nat} (hg : gst σ 0 n m) {o a t w : Int32} : Ct l X yX5_bestRow cX5_bestRow 9 (some .int) 6 [ra X 0, .int o, .int a, .int t, .int w] σ (some (.int (cBest σ n m o a t w).1)) (cBest σ n m o a t w).2 := by
  refine Ct.of RX5 rfl (by decide) (Nat.le_of_ble_eq_true rfl) ?_
  intro x hL h hr
  refine g_sub [(0, ra X 0), (1, .int o), (2, .int a), (3, .int t), (4, .int w)] ⟨rfl, rfl, rfl, rfl, rfl, trivial⟩ ?_
  obtain ⟨hc, hcr, hgd⟩ := id hg
  obtain ⟨hn, hm, hn6, hm8⟩ := id hc
  refine g_aload_n h dX5_bestRow_0 rfl ?_
  refine g_iload_n h dX5_bestRow_1 rfl ?_
  refine cl5_71 h  (ct_X5_isOracle ) rfl dX5_bestRow_2 rfl (Nat.le_of_ble_eq_true rfl) (by decide) ?_
  refine g_ifeqB h 34 dX5_bestRow_5 (by decide) (fun c5 => ?_) (fun c5 => ?_)
  · refine g_ldc h (-1000001) (lw_in 220 (by decide +kernel) rfl) dX5_bestRow_34 ?_
    exact g_iret h hr dX5_bestRow_36 (by first | (simp [cBest, kBad, kNot, kLim, kNone, ix, hij, c5]; done) | (simp [cBest, kBad, kNot, kLim, kNone, ix, c5]; done) | (simp_all [cBest, kBad, kNot, kLim, kNone, ix]; done)) (by first | (simp [cBest, kBad, kNot, kLim, kNone, ix, hij, c5]; done) | (simp [cBest, kBad, kNot, kLim, kNone, ix, c5]; done) | (simp_all [cBest, kBad, kNot, kLim, kNone, ix]; done))
  · obtain ⟨j, hj, rfl⟩ := wi_or (by omega) hn c5
    have hij : (nI j).toNatClampNeg = j := nI_clamp (by omega)
    refine g_iload_n h dX5_bestRow_8 rfl ?_
    refine cl5_107 h (ct_X5_isAddress) rfl dX5_bestRow_9 rfl (Nat.le_of_ble_eq_true rfl) (by decide) ?_
    refine g_ifeqB h 34 dX5_bestRow_12 (by decide) (fun c12 => ?_) (fun c12 => ?_)
    · refine g_ldc h (-1000001) (lw_in 220 (by decide +kernel) rfl) dX5_bestRow_34 ?_
      exact g_iret h hr dX5_bestRow_36 (by first | (simp [cBest, kBad, kNot, kLim, kNone, ix, hij, c5, c12]; done) | (simp [cBest, kBad, kNot, kLim, kNone, ix, c5, c12]; done) | (simp_all [cBest, kBad, kNot, kLim, kNone, ix]; done)) (by first | (simp [cBest, kBad, kNot, kLim, kNone, ix, hij, c5, c12]; done) | (simp [cBest, kBad, kNot, kLim, kNone, ix, c5, c12]; done) | (simp_all [cBest, kBad, kNot, kLim, kNone, ix]; done))
    · refine g_iload_n h dX5_bestRow_15 rfl ?_
      refine g_iconst (v := 1) h dX5_bestRow_16 (by decide) ?_
      refine g_iconst (v := 5) h dX5_bestRow_17 (by decide) ?_
      refine cl5_33 h (ct_X5_isWithin) rfl dX5_bestRow_18 rfl (Nat.le_of_ble_eq_true rfl) (by decide) ?_
      refine g_ifeqB h 34 dX5_bestRow_21 (by decide) (fun c21 => ?_) (fun c21 => ?_)
      · refine g_ldc h (-1000001) (lw_in 220 (by decide +kernel) rfl) dX5_bestRow_34 ?_
        exact g_iret h hr dX5_bestRow_36 (by first | (simp [cBest, kBad, kNot, kLim, kNone, ix, hij, c5, c12, c21]; done) | (simp [cBest, kBad, kNot, kLim, kNone, ix, c5, c12, c21]; done) | (simp_all [cBest, kBad, kNot, kLim, kNone, ix]; done)) (by first | (simp [cBest, kBad, kNot, kLim, kNone, ix, hij, c5, c12, c21]; done) | (simp [cBest, kBad, kNot, kLim, kNone, ix, c5, c12, c21]; done) | (simp_all [cBest, kBad, kNot, kLim, kNone, ix]; done))
      · obtain ⟨t, ht, rfl⟩ : ∃ q : Nat, q ≤ 5 ∧ t = nI q := wi_ix (n := 5) (by decide) (by decide) (wi_of.mpr ⟨fun q => (wi_of.mp c21).1 (Int32.lt_of_lt_of_le q (by decide)), (wi_of.mp c21).2⟩)
        have hit : (nI t).toNatClampNeg = t := nI_clamp (by omega)
        refine g_iload h dX5_bestRow_24 rfl ?_
        refine g_iconst (v := 0) h dX5_bestRow_26 (by decide) ?_
        refine g_iconst (v := 1) h dX5_bestRow_27 (by decide) ?_
        refine cl5_33 h (ct_X5_isWithin) rfl dX5_bestRow_28 rfl (Nat.le_of_ble_eq_true rfl) (by decide) ?_
        refine g_ifneB h 37 dX5_bestRow_31 (by decide) (fun c31 => ?_) (fun c31 => ?_)
        · have h32 : 2 ^ t ≤ 2 ^ 5 := Nat.pow_le_pow_right (by decide) ht
          have LOOP : ∀ (q i : Nat), i + q = (2 ^ t) → G x X (brZ σ n m t a j i).1 [(0, ra X 0), (1, .int (nI j)), (2, .int a), (3, .int (nI t)), (4, .int w), (5, .int (brZ σ n m t a j i).2.1), (6, .int (brZ σ n m t a j i).2.2), (7, .int (nI i))] [] 46 := by
            intro q
            induction q with
            | zero =>
              intro i hi 
              have hie : i = (2 ^ t) := by omega
              rw [hie]
              refine g_iload h dX5_bestRow_46 rfl ?_
              refine g_iconst (v := 1) h dX5_bestRow_48 (by decide) ?_
              refine g_iload_n h dX5_bestRow_49 rfl ?_
              refine g_ishl h dX5_bestRow_50 ?_
              refine g_icge h 86 dX5_bestRow_51 (by decide) (fun c51 => ?_) (fun c51 => absurd (by rw [shl1 t ht]; exact Int32.le_refl _) c51)
              refine g_iload h dX5_bestRow_86 rfl ?_
              refine g_ifne h 96 dX5_bestRow_88 (by decide) (fun c88 => ?_) (fun c88 => ?_)
              · refine g_iload h dX5_bestRow_96 rfl ?_
                exact g_iret h hr dX5_bestRow_98 (by first | (simp [cBest, ix, hij, hit, c5, c12, c21, c31, c51, c88]; done) | (subst c88; simp [cBest, ix, hij, hit, c5, c12, c21, c31])) (by first | (simp [cBest, ix, hij, hit, c5, c12, c21, c31, c51, c88]; done) | (subst c88; simp [cBest, ix, hij, hit, c5, c12, c21, c31]))
              · refine g_iload h dX5_bestRow_91 rfl ?_
                refine g_goto h 98 dX5_bestRow_93 (by decide) ?_
                exact g_iret h hr dX5_bestRow_98 (by first | (simp [cBest, ix, hij, hit, c5, c12, c21, c31, c51, c88]; done) | (subst c88; simp [cBest, ix, hij, hit, c5, c12, c21, c31])) (by first | (simp [cBest, ix, hij, hit, c5, c12, c21, c31, c51, c88]; done) | (subst c88; simp [cBest, ix, hij, hit, c5, c12, c21, c31]))
            | succ q ih =>
              intro i hi 
              have hlt : i < (2 ^ t) := by omega
              have hgi := (brZ_out (t := t) (j := j) (q := 0) a hg (Or.inl (by decide)) i).2
              refine g_iload h dX5_bestRow_46 rfl ?_
              refine g_iconst (v := 1) h dX5_bestRow_48 (by decide) ?_
              refine g_iload_n h dX5_bestRow_49 rfl ?_
              refine g_ishl h dX5_bestRow_50 ?_
              refine g_icge h 86 dX5_bestRow_51 (by decide) (fun c51 => absurd c51 (by rw [shl1 t ht]; exact nI_ge hlt (by omega))) (fun c51 => ?_)
              refine g_aload_n h dX5_bestRow_54 rfl ?_
              refine g_iload h dX5_bestRow_55 rfl ?_
              refine g_iload_n h dX5_bestRow_57 rfl ?_
              refine g_iload_n h dX5_bestRow_58 rfl ?_
              refine g_iload_n h dX5_bestRow_59 rfl ?_
              refine cl5_198 h  (ct_X5_purseBehind hgi ht hj) rfl dX5_bestRow_60 rfl (Nat.le_of_ble_eq_true rfl) (by decide) ?_
              refine g_istore h dX5_bestRow_63 (by rw [hL]; decide) ?_
              refine g_iload h dX5_bestRow_65 rfl ?_
              refine g_iload h dX5_bestRow_67 rfl ?_
              refine g_icle h 80 dX5_bestRow_69 (by decide) (fun c69 => ?_) (fun c69 => ?_)
              · refine g_iincN h dX5_bestRow_80 rfl (by rw [hL]; decide) ?_
                refine g_goto h 46 dX5_bestRow_83 (by decide) ?_
                refine g_mem (brZ σ n m t a j (i + 1)).1 rfl ?_
                refine g_sub [(0, ra X 0), (1, .int (nI j)), (2, .int a), (3, .int (nI t)), (4, .int w), (5, .int (brZ σ n m t a j (i + 1)).2.1), (6, .int (brZ σ n m t a j (i + 1)).2.2), (7, .int (nI (i + 1)))] ⟨rfl, rfl, rfl, rfl, rfl, (congrArg (fun z => some (Value.int z)) (by show _ = (if _ ≤ _ then _ else _); simp [c51, c69])), (congrArg (fun z => some (Value.int z)) (by show _ = (if _ ≤ _ then _ else _); simp [c51, c69])), rfl, trivial⟩ ?_
                exact ih (i + 1) (by omega)
              · refine g_iload h dX5_bestRow_72 rfl ?_
                refine g_istore h dX5_bestRow_74 (by rw [hL]; decide) ?_
                refine g_iload h dX5_bestRow_76 rfl ?_
                refine g_istore h dX5_bestRow_78 (by rw [hL]; decide) ?_
                refine g_iincN h dX5_bestRow_80 rfl (by rw [hL]; decide) ?_
                refine g_goto h 46 dX5_bestRow_83 (by decide) ?_
                refine g_mem (brZ σ n m t a j (i + 1)).1 rfl ?_
                refine g_sub [(0, ra X 0), (1, .int (nI j)), (2, .int a), (3, .int (nI t)), (4, .int w), (5, .int (brZ σ n m t a j (i + 1)).2.1), (6, .int (brZ σ n m t a j (i + 1)).2.2), (7, .int (nI (i + 1)))] ⟨rfl, rfl, rfl, rfl, rfl, (congrArg (fun z => some (Value.int z)) (by show _ = (if _ ≤ _ then _ else _); simp [c51, c69])), (congrArg (fun z => some (Value.int z)) (by show _ = (if _ ≤ _ then _ else _); simp [c51, c69])), rfl, trivial⟩ ?_
                exact ih (i + 1) (by omega)
          refine g_iconst (v := 0) h dX5_bestRow_37 (by decide) ?_
          refine g_istore h dX5_bestRow_38 (by rw [hL]; decide) ?_
          refine g_iconst (v := (-1)) h dX5_bestRow_40 (by decide) ?_
          refine g_istore h dX5_bestRow_41 (by rw [hL]; decide) ?_
          refine g_iconst (v := 0) h dX5_bestRow_43 (by decide) ?_
          refine g_istore h dX5_bestRow_44 (by rw [hL]; decide) ?_
          refine g_sub [(0, ra X 0), (1, .int (nI j)), (2, .int a), (3, .int (nI t)), (4, .int w), (5, .int (brZ σ n m t a j 0).2.1), (6, .int (brZ σ n m t a j 0).2.2), (7, .int (nI 0))] ⟨rfl, rfl, rfl, rfl, rfl, rfl, rfl, lk_0, trivial⟩ ?_
          exact LOOP (2 ^ t) 0 (by omega)
        · refine g_ldc h (-1000001) (lw_in 220 (by decide +kernel) rfl) dX5_bestRow_34 ?_
          exact g_iret h hr dX5_bestRow_36 (by first | (simp [cBest, kBad, kNot, kLim, kNone, ix, hij, c5, c12, c21, c31]; done) | (simp [cBest, kBad, kNot, kLim, kNone, ix, c5, c12, c21, c31]; done) | (simp_all [cBest, kBad, kNot, kLim, kNone, ix]; done)) (by first | (simp [cBest, kBad, kNot, kLim, kNone, ix, hij, c5, c12, c21, c31]; done) | (simp [cBest, kBad, kNot, kLim, kNone, ix, c5, c12, c21, c31]; done) | (simp_all [cBest, kBad, kNot, kLim, kNone, ix]; done))
set_option maxRecDepth 100000 in
set_option maxHeartbeats 4000000 in
theorem ct_X5_count {l : Launch} {X : fX} {σ : fM} {n m : Nat} (hg : gst σ 0 n m) {w : Int32} : Ct l X yX5_count cX5_count 2 (some .int) 2 [ra X 0, .int w] σ (some (.int (cCount σ n w).1)) (cCount σ n w).2 := by
  refine Ct.of RX5 rfl (by decide) (Nat.le_of_ble_eq_true rfl) ?_
  intro x hL h hr
  refine g_sub [(0, ra X 0), (1, .int w)] ⟨rfl, rfl, trivial⟩ ?_
  obtain ⟨hc, hcr, hgd⟩ := id hg
  obtain ⟨hn, hm, hn6, hm8⟩ := id hc
  refine g_iload_n h dX5_count_0 rfl ?_
  refine g_bipush (v := 20) h dX5_count_1 (by decide) ?_
  refine g_bipush (v := 22) h dX5_count_3 (by decide) ?_
  refine cl5_33 h (ct_X5_isWithin) rfl dX5_count_5 rfl (Nat.le_of_ble_eq_true rfl) (by decide) ?_
  refine g_ifeqB h 24 dX5_count_8 (by decide) (fun c8 => ?_) (fun c8 => ?_)
  · refine g_iload_n h dX5_count_24 rfl ?_
    by_cases c10 : wi w 0 10 = true
    · obtain ⟨w, hw, rfl⟩ := wi_ix (n := 10) (by decide) (by decide) c10
      have hiw : (nI w).toNatClampNeg = w := nI_clamp (by omega)
      rcases (show w = 0 ∨ w = 1 ∨ w = 2 ∨ w = 3 ∨ w = 4 ∨ w = 5 ∨ w = 6 ∨ w = 7 ∨ w = 8 ∨ w = 9 ∨ w = 10 by omega) with rfl | rfl | rfl | rfl | rfl | rfl | rfl | rfl | rfl | rfl | rfl
      · refine g_tsIn h 84 dX5_count_25 (by decide) (by decide) (by rfl) (by decide) ?_
        refine g_aload_n h dX5_count_84 rfl ?_
        refine gf5_10 h  dX5_count_85 ?_
        refine gf5_56 h (by omega) dX5_count_88 ?_
        exact g_iret h hr dX5_count_91 (by simp [cCount, kBad, ix, hiw, c8, c10]) rfl
      · refine g_tsIn h 92 dX5_count_25 (by decide) (by decide) (by rfl) (by decide) ?_
        refine g_aload_n h dX5_count_92 rfl ?_
        refine gf5_10 h  dX5_count_93 ?_
        refine cl5_202 h (by omega) (ct_X3_seatedOracles (by decide) hc) rfl dX5_count_96 rfl (Nat.le_of_ble_eq_true rfl) (by decide) ?_
        exact g_iret h hr dX5_count_99 (by simp [cCount, kBad, ix, hiw, c8, c10]) rfl
      · refine g_tsIn h 100 dX5_count_25 (by decide) (by decide) (by rfl) (by decide) ?_
        refine g_aload_n h dX5_count_100 rfl ?_
        refine gf5_10 h  dX5_count_101 ?_
        refine cl5_205 h (by omega) (ct_X3_ruinedOracles (by decide) hc) rfl dX5_count_104 rfl (Nat.le_of_ble_eq_true rfl) (by decide) ?_
        exact g_iret h hr dX5_count_107 (by simp [cCount, kBad, ix, hiw, c8, c10]) rfl
      · refine g_tsIn h 108 dX5_count_25 (by decide) (by decide) (by rfl) (by decide) ?_
        refine g_aload_n h dX5_count_108 rfl ?_
        refine gf5_10 h  dX5_count_109 ?_
        refine gf5_208 h (by omega) dX5_count_112 ?_
        exact g_iret h hr dX5_count_115 (by simp [cCount, kBad, ix, hiw, c8, c10]) rfl
      · refine g_tsIn h 116 dX5_count_25 (by decide) (by decide) (by rfl) (by decide) ?_
        refine g_aload_n h dX5_count_116 rfl ?_
        refine gf5_10 h  dX5_count_117 ?_
        refine cl5_211 h (by omega) (ct_X3_allCoins (by decide) hc) rfl dX5_count_120 rfl (Nat.le_of_ble_eq_true rfl) (by decide) ?_
        exact g_iret h hr dX5_count_123 (by simp [cCount, kBad, ix, hiw, c8, c10]) rfl
      · refine g_tsIn h 124 dX5_count_25 (by decide) (by decide) (by rfl) (by decide) ?_
        refine g_aload_n h dX5_count_124 rfl ?_
        refine gf5_10 h  dX5_count_125 ?_
        refine gf5_164 h (by omega) dX5_count_128 ?_
        exact g_iret h hr dX5_count_131 (by simp [cCount, kBad, ix, hiw, c8, c10]) rfl
      · refine g_tsIn h 132 dX5_count_25 (by decide) (by decide) (by rfl) (by decide) ?_
        refine g_aload_n h dX5_count_132 rfl ?_
        refine gf5_10 h  dX5_count_133 ?_
        refine gf5_214 h (by omega) dX5_count_136 ?_
        exact g_iret h hr dX5_count_139 (by simp [cCount, kBad, ix, hiw, c8, c10]) rfl
      · refine g_tsIn h 140 dX5_count_25 (by decide) (by decide) (by rfl) (by decide) ?_
        refine g_aload_n h dX5_count_140 rfl ?_
        refine gf5_10 h  dX5_count_141 ?_
        refine gf5_217 h (by omega) dX5_count_144 ?_
        exact g_iret h hr dX5_count_147 (by simp [cCount, kBad, ix, hiw, c8, c10]) rfl
      · refine g_tsIn h 148 dX5_count_25 (by decide) (by decide) (by rfl) (by decide) ?_
        refine g_aload_n h dX5_count_148 rfl ?_
        refine gf5_10 h  dX5_count_149 ?_
        refine gf5_100 h (by omega) dX5_count_152 ?_
        exact g_iret h hr dX5_count_155 (by simp [cCount, kBad, ix, hiw, c8, c10]) rfl
      · refine g_tsIn h 156 dX5_count_25 (by decide) (by decide) (by rfl) (by decide) ?_
        refine g_aload_n h dX5_count_156 rfl ?_
        refine gf5_22 h  dX5_count_157 ?_
        refine gf5_220 h  dX5_count_160 ?_
        exact g_iret h hr dX5_count_163 (by simp [cCount, kBad, ix, hiw, c8, c10]) rfl
      · refine g_tsIn h 164 dX5_count_25 (by decide) (by decide) (by rfl) (by decide) ?_
        refine g_aload_n h dX5_count_164 rfl ?_
        refine gf5_29 h  dX5_count_165 ?_
        refine gf5_223 h  dX5_count_168 ?_
        exact g_iret h hr dX5_count_171 (by simp [cCount, kBad, ix, hiw, c8, c10]) rfl
    · refine g_tsOut h 172 dX5_count_25 (wi_out (by simpa using c10)) (by decide) ?_
      refine g_ldc h (-1000001) (lw_in 220 (by decide +kernel) rfl) dX5_count_172 ?_
      exact g_iret h hr dX5_count_174 (by simp [cCount, kBad, c8, c10]) rfl
  · obtain ⟨v, hv, rfl⟩ := wi_20 c8
    have hiw : (nI (v + 20)).toNatClampNeg = v + 20 := nI_clamp (by omega)
    refine g_aload_n h dX5_count_11 rfl ?_
    refine gf5_10 h  dX5_count_12 ?_
    refine gf5_49 h (by omega) dX5_count_15 ?_
    refine g_iload_n h dX5_count_18 rfl ?_
    refine g_bipush (v := 20) h dX5_count_19 (by decide) ?_
    refine g_isub h dX5_count_21 ?_
    refine g_ialdSet h (by omega) (sub20 v hv) hv dX5_count_22 ?_
    exact g_iret h hr dX5_count_23 (by simp [cCount, kBad, ix, hiw, c8]) rfl
end
section
/-! floats: a quotient of two whole numbers -/
def fbQ (u w i : Nat) : Bool := decide (w * 2 ^ 23 ≤ u * 2 ^ i)
/-- how often it is doubled -/
def fbN (u w : Nat) : Nat := fstF (fbQ u w) 48
def fbC (u w : Nat) : Nat := FP.Core.nearest (u * 2 ^ fbN u w) w
def fbV (u w : Nat) : Int32 := if u = 0 then 0 else nI ((150 - fbN u w) * 2 ^ 23 + (fbC u w - 2 ^ 23))
theorem fstF_hit {p : Nat → Bool} : ∀ {n : Nat}, fstF p n < n → p (fstF p n) = true
  | 0, h => absurd h (Nat.not_lt_zero _)
  | n + 1, h => by
    unfold fstF at h ⊢
    by_cases h1 : fstF p n < n
    · rw [if_pos h1]; exact fstF_hit h1
    · rw [if_neg h1] at h ⊢
      by_cases h2 : p n = true
      · rw [if_pos h2]; exact h2
      · rw [if_neg h2] at h; omega
theorem fstF_pre {p : Nat → Bool} : ∀ {n i : Nat}, i < fstF p n → p i = false
  | 0, _, h => absurd h (Nat.not_lt_zero _)
  | n + 1, i, h => by
    unfold fstF at h
    by_cases h1 : fstF p n < n
    · rw [if_pos h1] at h; exact fstF_pre h
    · rw [if_neg h1] at h
      have hle := fstF_le p n
      by_cases h2 : p n = true
      · rw [if_pos h2] at h
        exact fstF_pre (n := n) (by omega)
      · rw [if_neg h2] at h
        by_cases hi : i = n
        · rw [hi]; simpa using h2
        · exact fstF_pre (n := n) (by omega)
section FB
variable {u w : Nat}
theorem fbN_ok (h0 : 0 < u) (hu : u ≤ w) (hw : w < 2 ^ 24) : fbN u w < 48 ∧ w * 2 ^ 23 ≤ u * 2 ^ fbN u w ∧ (∀ i, i < fbN u w → u * 2 ^ i < w * 2 ^ 23) ∧ 23 ≤ fbN u w := by
  have h47 : fbQ u w 47 = true := by
    refine decide_eq_true ?_
    have h1 : 1 * 2 ^ 47 ≤ u * 2 ^ 47 := Nat.mul_le_mul_right _ h0
    have h2 : w * 2 ^ 23 ≤ 2 ^ 24 * 2 ^ 23 := Nat.mul_le_mul_right _ (Nat.le_of_lt hw)
    exact Nat.le_trans h2 h1
  have hlt : fbN u w < 48 := by
    rcases Nat.lt_or_ge (fbN u w) 48 with h | h
    · exact h
    · have := fstF_pre (p := fbQ u w) (n := 48) (i := 47) (by unfold fbN at h; omega)
      rw [this] at h47; cases h47
  have hp : ∀ i, i < fbN u w → u * 2 ^ i < w * 2 ^ 23 := fun i hi => by
    have := fstF_pre (p := fbQ u w) hi
    unfold fbQ at this
    exact Nat.not_le.mp (of_decide_eq_false this)
  have hh : w * 2 ^ 23 ≤ u * 2 ^ fbN u w := of_decide_eq_true (fstF_hit (p := fbQ u w) hlt)
  refine ⟨hlt, hh, hp, ?_⟩
  rcases Nat.lt_or_ge (fbN u w) 23 with h | h
  · exfalso
    have h1 : u * 2 ^ fbN u w ≤ w * 2 ^ fbN u w := Nat.mul_le_mul_right _ hu
    have h2 : w * 2 ^ fbN u w < w * 2 ^ 23 := Nat.mul_lt_mul_of_pos_left (Nat.pow_lt_pow_right (by decide) h) (Nat.lt_of_lt_of_le h0 hu)
    exact absurd (Nat.lt_of_lt_of_le h2 hh) (Nat.not_lt.mpr h1)
  · exact h
theorem fbC_ok (h0 : 0 < u) (hu : u ≤ w) (hw : w < 2 ^ 24) : 2 ^ 23 ≤ fbC u w ∧ fbC u w ≤ 2 ^ 24 ∧ u * 2 ^ fbN u w < w * 2 ^ 24 := by
  obtain ⟨h1, h2, h3, h4⟩ := fbN_ok h0 hu hw
  have hw0 : 0 < w := Nat.lt_of_lt_of_le h0 hu
  have hlt : u * 2 ^ fbN u w < w * 2 ^ 24 := by
    by_cases e : fbN u w = 23
    · rw [e]
      have : u * 2 ^ 23 ≤ w * 2 ^ 23 := Nat.mul_le_mul_right _ hu
      have h5 : w * 2 ^ 23 < w * 2 ^ 24 := Nat.mul_lt_mul_of_pos_left (by decide) hw0
      exact Nat.lt_of_le_of_lt this h5
    · have := h3 (fbN u w - 1) (Nat.sub_lt (Nat.lt_of_lt_of_le (by decide) h4) (by decide))
      have e2 : 2 ^ fbN u w = 2 ^ (fbN u w - 1) * 2 := by rw [← Nat.pow_succ]; exact congrArg _ (Nat.sub_add_cancel (Nat.le_trans (show 1 ≤ 23 by decide) h4)).symm
      rw [e2, ← Nat.mul_assoc, show w * 2 ^ 24 = w * 2 ^ 23 * 2 by rw [Nat.mul_assoc]]
      exact Nat.mul_lt_mul_of_pos_right this (by decide)
  refine ⟨FP.Core.nearest_ge hw0 (by rw [Nat.mul_comm]; exact h2), FP.Core.nearest_le hw0 (by rw [Nat.mul_comm (2 ^ 24)]; exact Nat.le_of_lt hlt), hlt⟩
end FB
/-- a float of 24 bits c, with the exponent's field e -/
def FD (c e : Nat) : FP.Core.Datum := .fin false c ((e : Int) - 150)
def FV (c e : Nat) : UInt32 := FP.Core.of32 (FD c e)
def fOk (c e : Nat) : Prop := 2 ^ 23 ≤ c ∧ c < 2 ^ 24 ∧ 1 ≤ e ∧ e ≤ 254
theorem FD_fits {c e : Nat} (h : fOk c e) : FP.Core.fits FP.Core.b32 (FD c e) := by
  obtain ⟨h1, h2, h3, h4⟩ := h
  have e1 : FP.Core.b32.qmin = -149 := by decide
  have e2 : FP.Core.b32.qmax = 104 := by decide
  have e3 : FP.Core.b32.tails = 2 ^ 23 := by decide
  refine ⟨h2, ?_, ?_, Or.inr ?_⟩
  · rw [e1]; omega
  · rw [e2]; omega
  · rw [e3]; exact h1
theorem FV_val {c e : Nat} (h : fOk c e) : FP.Core.val32 (FV c e) = FD c e := FP.Core.val32_of32 (FD_fits h)
theorem FV_nn {c e : Nat} (h : fOk c e) : vf_n32 (FV c e) := by
  have h1 : FP.Core.val32 (FV c e) ≠ .nan := by rw [FV_val h]; exact fun q => by cases q
  have h2 := (FP.Core.ne_nan32 _).mp h1
  unfold vf_n32
  rw [UInt32.le_iff_toNat_le, UInt32.toNat_and]
  show (FV c e).toNat &&& (2 ^ 31 - 1) ≤ 2139095040
  rw [Nat.and_two_pow_sub_one_eq_mod]
  exact h2
/-- an int as a float -/
theorem i2f_v {u : Nat} (hu : u < 2 ^ 24) : ∃ c q, FP.Core.val32 (FP.i2f (nI u)) = .fin false c q ∧ -149 ≤ q ∧ c * 2 ^ (q + 149).toNat = u * 2 ^ 149 := by
  have e0 : FP.Core.ofInt (nI u).toInt = .fin false u 0 := by
    rw [nI_toInt (by omega)]
    unfold FP.Core.ofInt
    rw [decide_eq_false (by omega), Int.natAbs_natCast]
  obtain ⟨c, q, h1, h2⟩ := FP.Core.round_exact FP.Core.good_b32 false (c := u) (q := 0) (show u < 2 ^ FP.Core.b32.p from hu) (by decide) (by decide)
  have hf := FP.Core.round_fits FP.Core.good_b32 (.fin false u 0)
  rw [h1] at hf
  have hq : -149 ≤ q := hf.2.1
  refine ⟨c, q, ?_, hq, ?_⟩
  · show FP.Core.val32 (FP.Core.i2f (nI u)) = _
    rw [FP.Core.val32_i2f, e0, h1]
  · unfold FP.Core.inUnits at h2
    have e1 : FP.Core.b32.qmin = -149 := by decide
    rw [e1] at h2
    rw [show q + 149 = q - -149 by omega, h2]
    rfl
theorem mulx {cu cw u w a b x y K : Nat} (hK : 0 < K) (h1 : cu * 2 ^ a = u * K) (h2 : cw * 2 ^ b = w * K) (hx : x + b = y + a) : cu * w * 2 ^ x = u * cw * 2 ^ y := by
  have hp : 0 < K * 2 ^ b := Nat.mul_pos hK (Nat.two_pow_pos b)
  refine Nat.eq_of_mul_eq_mul_right hp ?_
  calc cu * w * 2 ^ x * (K * 2 ^ b) = cu * (w * K) * (2 ^ x * 2 ^ b) := by ac_rfl
    _ = cu * (cw * 2 ^ b) * 2 ^ (y + a) := by rw [← h2, ← Nat.pow_add, hx]
    _ = (cu * 2 ^ a) * (cw * 2 ^ y * 2 ^ b) := by rw [Nat.pow_add]; ac_rfl
    _ = u * cw * 2 ^ y * (K * 2 ^ b) := by rw [h1]; ac_rfl
/-- what the quotient is, as a float -/
def fbc (u w : Nat) : Nat := if fbC u w < 2 ^ 24 then fbC u w else 2 ^ 23
def fbe (u w : Nat) : Nat := if fbC u w < 2 ^ 24 then 150 - fbN u w else 151 - fbN u w
theorem fbce_ok {u w : Nat} (h0 : 0 < u) (hu : u ≤ w) (hw : w < 2 ^ 24) : fOk (fbc u w) (fbe u w) ∧ fbe u w ≤ 127 ∧ 80 ≤ fbe u w ∧ fbV u w = nI (fbe u w * 2 ^ 23 + (fbc u w - 2 ^ 23)) := by
  obtain ⟨h1, h2, h3, h4⟩ := fbN_ok h0 hu hw
  obtain ⟨c1, c2, c3⟩ := fbC_ok h0 hu hw
  have hlast : ¬ fbC u w < 2 ^ 24 → 24 ≤ fbN u w := fun hc => by
    rcases Nat.lt_or_ge (fbN u w) 24 with h | h
    · exfalso
      have e : fbN u w = 23 := by omega
      have h5 : fbC u w ≤ 2 ^ 23 := by
        unfold fbC
        rw [e]
        refine FP.Core.nearest_le (by omega) ?_
        rw [Nat.mul_comm u]
        exact Nat.mul_le_mul_left _ hu
      omega
    · exact h
  unfold fbV
  rw [if_neg (by omega)]
  unfold fbc fbe fOk
  by_cases hc : fbC u w < 2 ^ 24
  · rw [if_pos hc, if_pos hc]
    exact ⟨⟨c1, hc, by omega, by omega⟩, by omega, by omega, rfl⟩
  · have h24 := hlast hc
    rw [if_neg hc, if_neg hc]
    exact ⟨⟨by omega, by omega, by omega, by omega⟩, by omega, by omega, congrArg nI (by omega)⟩
theorem tN1 (n : Nat) : ((0 : Int) - -(n : Int)).toNat = n := by omega
theorem tN2 (n : Nat) : (-(n : Int) - 0).toNat = 0 := by omega
theorem tN3 (n : Nat) : -(n : Int) - 0 + ((24 : Nat) : Int) = ((24 : Nat) : Int) - (n : Nat) := by omega
theorem tN4 (n : Nat) : -(n : Int) - 0 + (((24 : Nat) : Int) - 1) = ((23 : Nat) : Int) - (n : Nat) := by omega
theorem tN5 {n : Nat} (h : n < 48) : (-149 : Int) ≤ -(n : Int) := by omega
theorem tN6 {n : Nat} (h : n < 48) : -(n : Int) ≤ 104 ∧ -(n : Int) + 1 ≤ 104 := by omega
theorem tN7 {n : Nat} (h : n < 48) : -(n : Int) = ((150 - n : Nat) : Int) - 150 ∧ -(n : Int) + 1 = ((151 - n : Nat) : Int) - 150 := by omega
theorem tN8 (a b : Int) : ∃ x y : Nat, (a - b - 0).toNat = x ∧ (0 - (a - b)).toNat = y ∧ (-149 ≤ a → -149 ≤ b → x + (b + 149).toNat = y + (a + 149).toNat) := ⟨_, _, rfl, rfl, fun _ _ => by omega⟩
theorem fdiv_v {u w : Nat} (h0 : 0 < u) (hu : u ≤ w) (hw : w < 2 ^ 24) : FP.fdiv (FP.i2f (nI u)) (FP.i2f (nI w)) = FV (fbc u w) (fbe u w) := by
  obtain ⟨cu, qu, v1, q1, m1⟩ := i2f_v (show u < 2 ^ 24 by omega)
  obtain ⟨cw, qw, v2, q2, m2⟩ := i2f_v hw
  have hw0 : 0 < w := Nat.lt_of_lt_of_le h0 hu
  obtain ⟨h1, h2, h3, h4⟩ := fbN_ok h0 hu hw
  obtain ⟨c1, c2, c3⟩ := fbC_ok h0 hu hw
  have hcw : cw ≠ 0 := fun e => by
    rw [e, Nat.zero_mul] at m2
    have : 0 < w * 2 ^ 149 := Nat.mul_pos hw0 (Nat.two_pow_pos _)
    exact absurd m2.symm (Nat.ne_of_gt this)
  have hval : FP.Core.quotient FP.Core.b32 (.fin false cu qu) (.fin false cw qw) = FD (fbc u w) (fbe u w) := by
    show (if cw = 0 then _ else FP.Core.roundRatio FP.Core.b32 (false != false) cu cw (qu - qw)) = _
    rw [if_neg hcw]
    have e1 : FP.Core.roundRatio FP.Core.b32 (false != false) cu cw (qu - qw) = FP.Core.roundRatio FP.Core.b32 false u w 0 := by
      refine FP.Core.roundRatio_congr (Nat.pos_of_ne_zero hcw) hw0 ?_
      obtain ⟨x, y, ex, ey, hxy⟩ := tN8 qu qw
      rw [ex, ey]
      exact mulx (Nat.two_pow_pos 149) m1 m2 (hxy q1 q2)
    rw [e1]
    have hq : FP.Core.quantum FP.Core.b32 u w 0 = -(fbN u w : Int) := by
      refine FP.Core.quantum_eq h0 hw0 (tN5 h1) ?_ (Or.inr ?_)
      · show FP.Core.Below u w (-(fbN u w : Int) - 0 + ((24 : Nat) : Int))
        rw [tN3, FP.Core.below_iff]
        exact c3
      · show ¬ FP.Core.Below u w (-(fbN u w : Int) - 0 + (((24 : Nat) : Int) - 1))
        rw [tN4, FP.Core.below_iff]
        exact Nat.not_lt.mpr h2
    unfold FP.Core.roundRatio
    rw [if_neg (Nat.ne_of_gt h0), hq]
    unfold FP.Core.roundAt FP.Core.unitsNum FP.Core.unitsDen
    rw [tN1, tN2, Nat.pow_zero, Nat.mul_one]
    show FP.Core.settle FP.Core.b32 false (fbC u w) _ = _
    unfold FP.Core.settle FD fbc fbe
    by_cases hc : fbC u w < 2 ^ 24
    · rw [if_pos (show fbC u w < 2 ^ FP.Core.b32.p from hc), if_pos hc, if_pos hc]
      unfold FP.Core.bound
      rw [if_pos (show -(fbN u w : Int) ≤ FP.Core.b32.qmax from (tN6 h1).1), ← (tN7 h1).1]
    · rw [if_neg (show ¬ fbC u w < 2 ^ FP.Core.b32.p from hc), if_neg hc, if_neg hc]
      unfold FP.Core.bound
      rw [if_pos (show -(fbN u w : Int) + 1 ≤ FP.Core.b32.qmax from (tN6 h1).2), ← (tN7 h1).2]
      rfl
  show FP.Core.of32 (FP.Core.quotient FP.Core.b32 (FP.Core.val32 (FP.i2f (nI u))) (FP.Core.val32 (FP.i2f (nI w)))) = _
  rw [v1, v2, hval]
  rfl
theorem fmul_k {c e k : Nat} {y : UInt32} (h : fOk c e) (he : e + k ≤ 254) (hy : FP.Core.val32 y = .fin false (2 ^ 23) ((k : Int) - 23)) : FP.fmul (FV c e) y = FV c (e + k) := by
  show FP.Core.of32 (FP.Core.round FP.Core.b32 (FP.Core.exactProduct (FP.Core.val32 (FV c e)) (FP.Core.val32 y))) = _
  rw [FV_val h, hy]
  show FP.Core.of32 (FP.Core.roundRatio FP.Core.b32 (false != false) (c * 2 ^ 23) 1 (((e : Int) - 150) + ((k : Int) - 23))) = _
  unfold FV
  refine congrArg _ ?_
  refine FP.Core.roundRatio_exact (s := false) FP.Core.good_b32 (by decide) (FD_fits ⟨h.1, h.2.1, by have := h.2.2.1; omega, he⟩) ?_
  rw [show (((e : Int) - 150) + ((k : Int) - 23) - (((e + k : Nat) : Int) - 150)).toNat = 0 by omega, show ((((e + k : Nat) : Int) - 150) - (((e : Int) - 150) + ((k : Int) - 23))).toNat = 23 by omega]
  simp
theorem cmp_lt {a b : Int} (h : a < b) : compare a b = Ordering.lt := by
  show (if a < b then Ordering.lt else if a = b then Ordering.eq else Ordering.gt) = _
  rw [if_pos h]
theorem cmp_ge {a b : Int} (h : ¬ a < b) : compare a b = Ordering.eq ∨ compare a b = Ordering.gt := by
  show (if a < b then Ordering.lt else if a = b then Ordering.eq else Ordering.gt) = _ ∨ (if a < b then Ordering.lt else if a = b then Ordering.eq else Ordering.gt) = _
  rw [if_neg h]
  split
  · exact Or.inl rfl
  · exact Or.inr rfl
theorem fcmp_1 {c e : Nat} (h : fOk c e) (he : e ≤ 127) : (e < 127 → Op.cmpValue (FP.fcmp (FV c e) FP.fconst1) .g = -1) ∧ (e = 127 → 0 ≤ Op.cmpValue (FP.fcmp (FV c e) FP.fconst1) .g) := by
  have e0 : FP.fcmp (FV c e) FP.fconst1 = some (compare ((c : Int)) ((2 ^ 23 * 2 ^ (127 - e) : Nat) : Int)) := by
    show FP.Core.order (FP.Core.val32 (FV c e)) (FP.Core.val32 FP.Core.fconst1) = _
    rw [FV_val h, FP.Core.val32_fconst1]
    show some (compare (FP.Core.signed false (FP.Core.inUnits c ((e : Int) - 150) (min ((e : Int) - 150) (-23)))) (FP.Core.signed false (FP.Core.inUnits (2 ^ 23) (-23) (min ((e : Int) - 150) (-23))))) = _
    rw [show min ((e : Int) - 150) (-23) = (e : Int) - 150 by omega]
    unfold FP.Core.inUnits FP.Core.signed
    rw [show ((e : Int) - 150 - ((e : Int) - 150)).toNat = 0 by omega, show (-23 - ((e : Int) - 150)).toNat = 127 - e by omega]
    simp
  rw [e0]
  refine ⟨fun hlt => ?_, fun heq => ?_⟩
  · have h2 : 2 ^ 23 * 2 ^ 1 ≤ 2 ^ 23 * 2 ^ (127 - e) := Nat.mul_le_mul_left _ (Nat.pow_le_pow_right (by decide) (by omega))
    have h3 : (c : Int) < ((2 ^ 23 * 2 ^ (127 - e) : Nat) : Int) := by have := h.2.1; omega
    rw [cmp_lt h3]
    rfl
  · have h2 : ¬ (c : Int) < ((2 ^ 23 * 2 ^ (127 - e) : Nat) : Int) := by rw [heq]; have := h.1; omega
    rcases cmp_ge h2 with hc | hc
    · rw [hc]; decide
    · rw [hc]; decide
theorem f2i_v {c : Nat} (h : fOk c 150) : FP.f2i (FV c 150) = nI c := by
  show FP.Core.toI (FP.Core.val32 (FV c 150)) = _
  rw [FV_val h]
  unfold FD FP.Core.toI FP.Core.toInt FP.Core.truncate FP.Core.signed
  rw [show ((150 : Nat) : Int) - 150 = 0 by decide]
  show Int32.ofInt (max (-2 ^ 31) (min (2 ^ 31 - 1) ((c * 2 ^ 0 / 2 ^ 0 : Nat) : Int))) = _
  rw [Nat.pow_zero, Nat.mul_one, Nat.div_one, show max (-2 ^ 31 : Int) (min (2 ^ 31 - 1) (c : Int)) = (c : Int) by have := h.2.1; omega]
  rfl
theorem val_2 : FP.Core.val32 FP.fconst2 = .fin false (2 ^ 23) (((1 : Nat) : Int) - 23) := by decide +kernel
theorem val_23 : FP.Core.val32 1258291200 = .fin false (2 ^ 23) (((23 : Nat) : Int) - 23) := by decide +kernel
end
section
/-! floats: the walks of the class -/

set_option maxRecDepth 100000 in
set_option maxHeartbeats 4000000 in
theorem ct_X5_bits0 {l : Launch} {X : fX} {σ : fM} {u w cc0 ee0 : Nat} {vv : Int32} (hu : u ≤ w) (hw : w < 2 ^ 24) (hv0 : u = 0 → vv = 0) (hv1 : 0 < u → fOk cc0 ee0 ∧ ee0 ≤ 127 ∧ 80 ≤ ee0 ∧ vv = nI (ee0 * 2 ^ 23 + (cc0 - 2 ^ 23)) ∧ FP.fdiv (FP.i2f (nI u)) (FP.i2f (nI w)) = FV cc0 ee0) : Ct l X yX5_bitsOfQuotient cX5_bitsOfQuotient 5 (some .int) 0 [.int (nI u), .int (nI w)] σ (some (.int vv)) σ := by
  refine Ct.of RX5 rfl (by decide) (Nat.le_of_ble_eq_true rfl) ?_
  intro x hL h hr
  refine g_sub [(0, .int (nI u)), (1, .int (nI w))] ⟨rfl, rfl, trivial⟩ ?_
  refine g_iload_n h dX5_bitsOfQuotient_0 rfl ?_
  refine g_ifle h 8 dX5_bitsOfQuotient_1 (by decide) (fun c1 => ?_) (fun c1 => ?_)
  · have hu0 : u = 0 := by
      rcases Nat.eq_zero_or_pos u with e | e
      · exact e
      · exact absurd c1 (nI_nle e (by omega))
    refine g_iconst (v := 0) h dX5_bitsOfQuotient_8 (by decide) ?_
    exact g_iret h hr dX5_bitsOfQuotient_9 (hv0 hu0).symm rfl
  · have h0 : 0 < u := by
      rcases Nat.eq_zero_or_pos u with e | e
      · exact absurd (by rw [e]; decide) c1
      · exact e
    obtain ⟨hk, hk127, hk80, hV, hdv⟩ := hv1 h0
    have hk7 : fOk cc0 127 := ⟨hk.1, hk.2.1, by decide, by decide⟩
    have LOOP : ∀ (q j : Nat), j + q = (127 - ee0) → G x X σ [(2, .float (FV cc0 (ee0 + j))), (3, .int (nI (127 - j))), (4, .int (nI j))] [] 22 := by
      intro q
      induction q with
      | zero =>
        intro j hj 
        have hie : j = (127 - ee0) := by omega
        rw [hie]
        rw [show ee0 + (127 - ee0) = 127 by omega, show 127 - (127 - ee0) = ee0 by omega]
        refine g_iload h dX5_bitsOfQuotient_22 rfl ?_
        refine g_bipush (v := 126) h dX5_bitsOfQuotient_24 (by decide) ?_
        refine g_icge h 48 dX5_bitsOfQuotient_26 (by decide) (fun c26 => absurd c26 (nI_ge (b := 126) (by omega) (by decide))) (fun c26 => ?_)
        refine g_fload_n h dX5_bitsOfQuotient_29 rfl ?_
        refine g_fconst1 h dX5_bitsOfQuotient_30 ?_
        refine g_fcmp h dX5_bitsOfQuotient_31 ?_
        refine g_ifge h 48 dX5_bitsOfQuotient_32 (by decide) (fun c32 => ?_) (fun c32 => absurd ((fcmp_1 hk7 (Nat.le_refl 127)).2 rfl) c32)
        refine g_iload_n h dX5_bitsOfQuotient_48 rfl ?_
        refine g_bipush (v := 23) h dX5_bitsOfQuotient_49 (by decide) ?_
        refine g_ishl h dX5_bitsOfQuotient_51 ?_
        refine g_fload_n h dX5_bitsOfQuotient_52 rfl ?_
        refine g_ldcf h (1258291200) (lw_in 464 (by decide +kernel) rfl) dX5_bitsOfQuotient_53 ?_
        refine g_fmul h dX5_bitsOfQuotient_55 (by rw [fmul_k hk7 (by decide) val_23]; exact FV_nn ⟨hk.1, hk.2.1, by decide, by decide⟩) ?_
        refine g_st [.float (FV cc0 150), .int (nI (ee0 * 2 ^ 23))] (by rw [fmul_k hk7 (by decide) val_23, pk_shlN (23 &&& 31) 23 (by decide) (by omega)]) ?_
        refine g_f2i h dX5_bitsOfQuotient_56 ?_
        refine g_top (nI cc0) (f2i_v ⟨hk.1, hk.2.1, by decide, by decide⟩) ?_
        refine g_ldc h (8388608) (lw_in 465 (by decide +kernel) rfl) dX5_bitsOfQuotient_57 ?_
        refine g_isub h dX5_bitsOfQuotient_59 ?_
        refine g_iadd h dX5_bitsOfQuotient_60 ?_
        exact g_iret h hr dX5_bitsOfQuotient_61 (by rw [hV, show (8388608 : Int32) = nI (2 ^ 23) by decide, pk_sub hk.1, nI_add]) rfl
      | succ q ih =>
        intro j hj 
        have hlt : j < (127 - ee0) := by omega
        refine g_iload h dX5_bitsOfQuotient_22 rfl ?_
        refine g_bipush (v := 126) h dX5_bitsOfQuotient_24 (by decide) ?_
        refine g_icge h 48 dX5_bitsOfQuotient_26 (by decide) (fun c26 => absurd c26 (nI_ge (b := 126) (by omega) (by decide))) (fun c26 => ?_)
        refine g_fload_n h dX5_bitsOfQuotient_29 rfl ?_
        refine g_fconst1 h dX5_bitsOfQuotient_30 ?_
        refine g_fcmp h dX5_bitsOfQuotient_31 ?_
        refine g_ifge h 48 dX5_bitsOfQuotient_32 (by decide) (fun c32 => absurd c32 (by rw [(fcmp_1 (show fOk cc0 (ee0 + j) from ⟨hk.1, hk.2.1, by omega, by omega⟩) (by omega)).1 (by omega)]; decide)) (fun c32 => ?_)
        refine g_fload_n h dX5_bitsOfQuotient_35 rfl ?_
        refine g_fconst2 h dX5_bitsOfQuotient_36 ?_
        refine g_fmul h dX5_bitsOfQuotient_37 (by rw [fmul_k (show fOk cc0 (ee0 + j) from ⟨hk.1, hk.2.1, by omega, by omega⟩) (by omega) val_2]; exact FV_nn ⟨hk.1, hk.2.1, by omega, by omega⟩) ?_
        refine g_st [.float (FV cc0 (ee0 + (j + 1)))] (by rw [fmul_k (show fOk cc0 (ee0 + j) from ⟨hk.1, hk.2.1, by omega, by omega⟩) (by omega) val_2]; rfl) ?_
        refine g_fstore_n h dX5_bitsOfQuotient_38 (by rw [hL]; decide) ?_
        refine g_iinc h dX5_bitsOfQuotient_39 rfl (by rw [hL]; decide) ?_
        refine g_iincN h dX5_bitsOfQuotient_42 rfl (by rw [hL]; decide) ?_
        refine g_goto h 22 dX5_bitsOfQuotient_45 (by decide) ?_
        refine g_sub [(2, .float (FV cc0 (ee0 + (j + 1)))), (3, .int (nI (127 - (j + 1)))), (4, .int (nI (j + 1)))] ⟨rfl, (congrArg (fun z => some (Value.int z)) (by rw [nI_m1, show 127 - j = (127 - (j + 1)) + 1 by omega, nI_pred])), rfl, trivial⟩ ?_
        exact ih (j + 1) (by omega)
    refine g_iload_n h dX5_bitsOfQuotient_4 rfl ?_
    refine g_ifgt h 10 dX5_bitsOfQuotient_5 (by decide) (fun c5 => ?_) (fun c5 => absurd (nI_lt (a := 0) (by omega) (by omega)) c5)
    refine g_iload_n h dX5_bitsOfQuotient_10 rfl ?_
    refine g_i2f h dX5_bitsOfQuotient_11 ?_
    refine g_iload_n h dX5_bitsOfQuotient_12 rfl ?_
    refine g_i2f h dX5_bitsOfQuotient_13 ?_
    refine g_fdiv h dX5_bitsOfQuotient_14 (by rw [hdv]; exact FV_nn hk) ?_
    refine g_st [.float (FV cc0 ee0)] (by rw [hdv]) ?_
    refine g_fstore_n h dX5_bitsOfQuotient_15 (by rw [hL]; decide) ?_
    refine g_bipush (v := 127) h dX5_bitsOfQuotient_16 (by decide) ?_
    refine g_istore_n h dX5_bitsOfQuotient_18 (by rw [hL]; decide) ?_
    refine g_iconst (v := 0) h dX5_bitsOfQuotient_19 (by decide) ?_
    refine g_istore h dX5_bitsOfQuotient_20 (by rw [hL]; decide) ?_
    refine g_sub [(2, .float (FV cc0 (ee0 + 0))), (3, .int (nI (127 - 0))), (4, .int (nI 0))] ⟨rfl, rfl, lk_0, trivial⟩ ?_
    exact LOOP (127 - ee0) 0 (by omega)

theorem ct_X5_bitsOfQuotient {l : Launch} {X : fX} {σ : fM} {u w : Nat} (hu : u ≤ w) (hw : w < 2 ^ 24) : Ct l X yX5_bitsOfQuotient cX5_bitsOfQuotient 5 (some .int) 0 [.int (nI u), .int (nI w)] σ (some (.int (fbV u w))) σ :=
  ct_X5_bits0 (cc0 := fbc u w) (ee0 := fbe u w) hu hw (fun h => by unfold fbV; rw [if_pos h]) (fun h0 => by
    obtain ⟨a, b, c, d⟩ := fbce_ok h0 hu hw
    exact ⟨a, b, c, d, fdiv_v h0 hu hw⟩)


def shR (f : Nat → Int32) : Prop := ∃ a b : Nat, a + b < 2 ^ 24 ∧ f 5 = nI a ∧ f 6 = nI b
def shV (f : Nat → Int32) : Int32 := if f 5 + f 6 ≤ 0 then kNone else fbV (ix (f 5)) (ix (f 5 + f 6))
def cShare (σ : fM) (o : Int32) : Int32 × fM := if wi o 0 (σ.1 (iS 0) 3 - 1) = false then (kBad, σ) else (shV (σ.1 (iO 0 (ix o))), σ)

set_option maxRecDepth 100000 in
set_option maxHeartbeats 4000000 in
theorem ct_X5_share {l : Launch} {X : fX} {σ : fM} {n m : Nat} (hg : gst σ 0 n m) (hsh : ∀ i, i < n → shR (σ.1 (iO 0 i))) {o : Int32} : Ct l X yX5_share cX5_share 4 (some .int) 2 [ra X 0, .int o] σ (some (.int (cShare σ o).1)) (cShare σ o).2 := by
  refine Ct.of RX5 rfl (by decide) (Nat.le_of_ble_eq_true rfl) ?_
  intro x hL h hr
  refine g_sub [(0, ra X 0), (1, .int o)] ⟨rfl, rfl, trivial⟩ ?_
  obtain ⟨hc, hcr, hgd⟩ := id hg
  obtain ⟨hn, hm, hn6, hm8⟩ := id hc
  refine g_aload_n h dX5_share_0 rfl ?_
  refine g_iload_n h dX5_share_1 rfl ?_
  refine cl5_71 h  (ct_X5_isOracle ) rfl dX5_share_2 rfl (Nat.le_of_ble_eq_true rfl) (by decide) ?_
  refine g_ifneB h 11 dX5_share_5 (by decide) (fun c5 => ?_) (fun c5 => ?_)
  · obtain ⟨j, hj, rfl⟩ := wi_or (by omega) hn c5
    have hij : (nI j).toNatClampNeg = j := nI_clamp (by omega)
    obtain ⟨a, b, hab, ea, eb⟩ := hsh j hj
    refine g_aload_n h dX5_share_11 rfl ?_
    refine gf5_10 h  dX5_share_12 ?_
    refine gf5_61 h (by omega) dX5_share_15 ?_
    refine g_iload_n h dX5_share_18 rfl ?_
    refine g_aaldO h (by omega) rfl (by omega) dX5_share_19 ?_
    refine g_astore_n h dX5_share_20 (by rw [hL]; decide) ?_
    refine g_aload_n h dX5_share_21 rfl ?_
    refine gf5_121 h (by omega) (by omega) dX5_share_22 ?_
    refine g_aload_n h dX5_share_25 rfl ?_
    refine gf5_124 h (by omega) (by omega) dX5_share_26 ?_
    refine g_iadd h dX5_share_29 ?_
    refine g_istore_n h dX5_share_30 (by rw [hL]; decide) ?_
    refine g_iload_n h dX5_share_31 rfl ?_
    refine g_ifle h 46 dX5_share_32 (by decide) (fun c32 => ?_) (fun c32 => ?_)
    · refine g_ldc h (-1000004) (lw_in 422 (by decide +kernel) rfl) dX5_share_46 ?_
      exact g_iret h hr dX5_share_48 (by first | (simp [cShare, kBad, ix, c5, c32]; done) | (unfold cShare; rw [if_neg (by rw [c5]; decide), show ix (nI j) = j from hij]; dsimp only; unfold shV ix; first | (rw [if_neg c32, ea, eb, nI_add, nI_clamp (by omega), nI_clamp (by omega)]; done) | (rw [if_pos c32]; rfl))) (by first | (simp [cShare, ix, c5, c32]; done) | (simp [cShare, ix, hij, c5, c32]; done))
    · refine g_aload_n h dX5_share_35 rfl ?_
      refine gf5_121 h (by omega) (by omega) dX5_share_36 ?_
      refine g_iload_n h dX5_share_39 rfl ?_
      refine g_st [.int (nI (a + b)), .int (nI a)] (by rw [ea, eb, nI_add]) ?_
      refine cl5_173 h (ct_X5_bitsOfQuotient (u := a) (w := a + b) (by omega) hab) rfl dX5_share_40 rfl (Nat.le_of_ble_eq_true rfl) (by decide) ?_
      refine g_goto h 48 dX5_share_43 (by decide) ?_
      exact g_iret h hr dX5_share_48 (by first | (simp [cShare, kBad, ix, c5, c32]; done) | (unfold cShare; rw [if_neg (by rw [c5]; decide), show ix (nI j) = j from hij]; dsimp only; unfold shV ix; first | (rw [if_neg c32, ea, eb, nI_add, nI_clamp (by omega), nI_clamp (by omega)]; done) | (rw [if_pos c32]; rfl))) (by first | (simp [cShare, ix, c5, c32]; done) | (simp [cShare, ix, hij, c5, c32]; done))
  · refine g_ldc h (-1000001) (lw_in 220 (by decide +kernel) rfl) dX5_share_8 ?_
    exact g_iret h hr dX5_share_10 (by first | (simp [cShare, kBad, ix, c5]; done) | (unfold cShare; rw [if_neg (by rw [c5]; decide), show ix (nI j) = j from hij]; dsimp only; unfold shV ix; first | (rw [if_neg c32, ea, eb, nI_add, nI_clamp (by omega), nI_clamp (by omega)]; done) | (rw [if_pos c32]; rfl))) (by first | (simp [cShare, ix, c5]; done) | (simp [cShare, ix, hij, c5]; done))

theorem nle0 {k : Nat} (hk : k < 2 ^ 31) (h : nI k ≤ 0) : k = 0 := by
  rcases Nat.eq_zero_or_pos k with e | e
  · exact e
  · exact absurd h (nI_nle e hk)
def odV (xa ya : Nat) : Int32 := if xa + ya = 0 then kNone else fbV xa (xa + ya)
def cOdds (σ : fM) (n : Nat) (a : Int32) (xa ya : Nat) : Int32 × fM := if isA a = false then (kBad, σ) else (odV xa ya, fore σ 0 n a)

set_option maxRecDepth 100000 in
set_option maxHeartbeats 4000000 in
theorem ct_X5_odds {l : Launch} {X : fX} {σ : fM} {n m : Nat} (hg : gst σ 0 n m) {a : Int32} {xa ya : Nat} (hxy : xa + ya < 2 ^ 24) (h1 : isA a = true → stk (fore σ 0 n a) 0 n 1 = nI xa ∧ stk (fore σ 0 n a) 0 n 0 = nI ya) : Ct l X yX5_odds cX5_odds 4 (some .int) 4 [ra X 0, .int a] σ (some (.int (cOdds σ n a xa ya).1)) (cOdds σ n a xa ya).2 := by
  refine Ct.of RX5 rfl (by decide) (Nat.le_of_ble_eq_true rfl) ?_
  intro x hL h hr
  refine g_sub [(0, ra X 0), (1, .int a)] ⟨rfl, rfl, trivial⟩ ?_
  obtain ⟨hc, hcr, hgd⟩ := id hg
  obtain ⟨hn, hm, hn6, hm8⟩ := id hc
  refine g_iload_n h dX5_odds_0 rfl ?_
  refine cl5_107 h (ct_X5_isAddress) rfl dX5_odds_1 rfl (Nat.le_of_ble_eq_true rfl) (by decide) ?_
  refine g_ifneB h 10 dX5_odds_4 (by decide) (fun c4 => ?_) (fun c4 => ?_)
  · obtain ⟨e1, e0⟩ := h1 c4
    refine g_aload_n h dX5_odds_10 rfl ?_
    refine gf5_10 h  dX5_odds_11 ?_
    refine g_iload_n h dX5_odds_14 rfl ?_
    refine cl5_179 h (by omega) (ct_X3_foretell (by decide) hc hgd) rfl dX5_odds_15 rfl (Nat.le_of_ble_eq_true rfl) (by decide) ?_
    refine g_aload_n h dX5_odds_18 rfl ?_
    refine gf5_10 h  dX5_odds_19 ?_
    refine g_iconst (v := 1) h dX5_odds_22 (by decide) ?_
    refine cl5_189 h (by omega) (ct_X3_stakesOn (by decide) (fore_cnt _ hc)) rfl dX5_odds_23 rfl (Nat.le_of_ble_eq_true rfl) (by decide) ?_
    refine g_top (nI xa) e1 ?_
    refine g_istore_n h dX5_odds_26 (by rw [hL]; decide) ?_
    refine g_iload_n h dX5_odds_27 rfl ?_
    refine g_aload_n h dX5_odds_28 rfl ?_
    refine gf5_10 h  dX5_odds_29 ?_
    refine g_iconst (v := 0) h dX5_odds_32 (by decide) ?_
    refine cl5_189 h (by omega) (ct_X3_stakesOn (by decide) (fore_cnt _ hc)) rfl dX5_odds_33 rfl (Nat.le_of_ble_eq_true rfl) (by decide) ?_
    refine g_st [.int (nI ya), .int (nI xa)] (by rw [← e0]; rfl) ?_
    refine g_iadd h dX5_odds_36 ?_
    refine g_top (nI (xa + ya)) (nI_add xa ya) ?_
    refine g_istore_n h dX5_odds_37 (by rw [hL]; decide) ?_
    refine g_iload_n h dX5_odds_38 rfl ?_
    refine g_ifle h 50 dX5_odds_39 (by decide) (fun c39 => ?_) (fun c39 => ?_)
    · refine g_ldc h (-1000004) (lw_in 422 (by decide +kernel) rfl) dX5_odds_50 ?_
      exact g_iret h hr dX5_odds_52 (by first | (simp [cOdds, kBad, c4, c39]; done) | (unfold cOdds; rw [if_neg (by rw [c4]; decide)]; dsimp only; unfold odV; first | (rw [if_neg (fun e => c39 (by rw [e]; decide))]; done) | (rw [if_pos (nle0 (by omega) c39)]; rfl))) (by simp [cOdds, c4, c39])
    · refine g_iload_n h dX5_odds_42 rfl ?_
      refine g_iload_n h dX5_odds_43 rfl ?_
      refine cl5_173 h (ct_X5_bitsOfQuotient (u := xa) (w := xa + ya) (by omega) hxy) rfl dX5_odds_44 rfl (Nat.le_of_ble_eq_true rfl) (by decide) ?_
      refine g_goto h 52 dX5_odds_47 (by decide) ?_
      exact g_iret h hr dX5_odds_52 (by first | (simp [cOdds, kBad, c4, c39]; done) | (unfold cOdds; rw [if_neg (by rw [c4]; decide)]; dsimp only; unfold odV; first | (rw [if_neg (fun e => c39 (by rw [e]; decide))]; done) | (rw [if_pos (nle0 (by omega) c39)]; rfl))) (by simp [cOdds, c4, c39])
  · refine g_ldc h (-1000001) (lw_in 220 (by decide +kernel) rfl) dX5_odds_7 ?_
    exact g_iret h hr dX5_odds_9 (by first | (simp [cOdds, kBad, c4]; done) | (unfold cOdds; rw [if_neg (by rw [c4]; decide)]; dsimp only; unfold odV; first | (rw [if_neg (fun e => c39 (by rw [e]; decide))]; done) | (rw [if_pos (nle0 (by omega) c39)]; rfl))) (by simp [cOdds, c4])
end
