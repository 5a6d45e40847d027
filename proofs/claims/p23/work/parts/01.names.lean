-- ===== PART A: goes FIRST, ahead of the names: the tables' words, and 'selects' of the private methods out of them =====
/-- a private method of a class that the tables say can be made, by its rows of tables_1 -/
def lw_okq (q : MethodName × Nat) : Prop := (q.1.cls ≠ "java/lang/invoke/MethodHandle" ∧ q.1.cls ≠ "java/lang/invoke/VarHandle") ∧ Cond.instantiable q.1.cls q.2 ∈ tables_1 ∧ Cond.privateMethod q.1 ∈ tables_1 ∧ Cond.instanceMethod q.1 ∈ tables_1
theorem lw_p0 : lw_okq (⟨"SilenceHours$State", "quietFrom", "(II)I"⟩, 19) := ⟨⟨by decide +kernel, by decide +kernel⟩, List.mem_of_getElem? (i := 19) (by decide +kernel), List.mem_of_getElem? (i := 313) (by decide +kernel), List.mem_of_getElem? (i := 314) (by decide +kernel)⟩
theorem lw_p1 : lw_okq (⟨"SilenceHours", "isPerson", "(I)Z"⟩, 5) := ⟨⟨by decide +kernel, by decide +kernel⟩, List.mem_of_getElem? (i := 11) (by decide +kernel), List.mem_of_getElem? (i := 340) (by decide +kernel), List.mem_of_getElem? (i := 341) (by decide +kernel)⟩
theorem lw_p2 : lw_okq (⟨"SilenceHours$State", "settleBids", "(I)V"⟩, 19) := ⟨⟨by decide +kernel, by decide +kernel⟩, List.mem_of_getElem? (i := 19) (by decide +kernel), List.mem_of_getElem? (i := 387) (by decide +kernel), List.mem_of_getElem? (i := 388) (by decide +kernel)⟩
theorem lw_p3 : lw_okq (⟨"SilenceHours$State", "collectFrom", "(II)I"⟩, 19) := ⟨⟨by decide +kernel, by decide +kernel⟩, List.mem_of_getElem? (i := 19) (by decide +kernel), List.mem_of_getElem? (i := 391) (by decide +kernel), List.mem_of_getElem? (i := 392) (by decide +kernel)⟩
theorem lw_p4 : lw_okq (⟨"SilenceHours$State", "shareOut", "(III)I"⟩, 19) := ⟨⟨by decide +kernel, by decide +kernel⟩, List.mem_of_getElem? (i := 19) (by decide +kernel), List.mem_of_getElem? (i := 395) (by decide +kernel), List.mem_of_getElem? (i := 396) (by decide +kernel)⟩
theorem lw_p5 : lw_okq (⟨"SilenceHours$State", "biddersForQuiet", "(I)I"⟩, 19) := ⟨⟨by decide +kernel, by decide +kernel⟩, List.mem_of_getElem? (i := 19) (by decide +kernel), List.mem_of_getElem? (i := 406) (by decide +kernel), List.mem_of_getElem? (i := 407) (by decide +kernel)⟩
theorem lw_p6 : lw_okq (⟨"SilenceHours$State", "shareFine", "(II)I"⟩, 19) := ⟨⟨by decide +kernel, by decide +kernel⟩, List.mem_of_getElem? (i := 19) (by decide +kernel), List.mem_of_getElem? (i := 463) (by decide +kernel), List.mem_of_getElem? (i := 464) (by decide +kernel)⟩
theorem lw_p7 : lw_okq (⟨"SilenceHours$Plan", "hasFailed", "()Z"⟩, 8) := ⟨⟨by decide +kernel, by decide +kernel⟩, List.mem_of_getElem? (i := 118) (by decide +kernel), List.mem_of_getElem? (i := 485) (by decide +kernel), List.mem_of_getElem? (i := 486) (by decide +kernel)⟩
theorem lw_p8 : lw_okq (⟨"SilenceHours$Plan", "readPiece", "()V"⟩, 8) := ⟨⟨by decide +kernel, by decide +kernel⟩, List.mem_of_getElem? (i := 118) (by decide +kernel), List.mem_of_getElem? (i := 489) (by decide +kernel), List.mem_of_getElem? (i := 490) (by decide +kernel)⟩
theorem lw_p9 : lw_okq (⟨"SilenceHours$Plan", "sign", "()I"⟩, 8) := ⟨⟨by decide +kernel, by decide +kernel⟩, List.mem_of_getElem? (i := 118) (by decide +kernel), List.mem_of_getElem? (i := 493) (by decide +kernel), List.mem_of_getElem? (i := 494) (by decide +kernel)⟩
theorem lw_p10 : lw_okq (⟨"SilenceHours$Plan", "closeGroup", "()V"⟩, 8) := ⟨⟨by decide +kernel, by decide +kernel⟩, List.mem_of_getElem? (i := 118) (by decide +kernel), List.mem_of_getElem? (i := 497) (by decide +kernel), List.mem_of_getElem? (i := 498) (by decide +kernel)⟩
theorem lw_p11 : lw_okq (⟨"SilenceHours$Plan", "take", "(C)V"⟩, 8) := ⟨⟨by decide +kernel, by decide +kernel⟩, List.mem_of_getElem? (i := 118) (by decide +kernel), List.mem_of_getElem? (i := 501) (by decide +kernel), List.mem_of_getElem? (i := 502) (by decide +kernel)⟩
theorem lw_p12 : lw_okq (⟨"SilenceHours$Plan", "takeIf", "(C)Z"⟩, 8) := ⟨⟨by decide +kernel, by decide +kernel⟩, List.mem_of_getElem? (i := 118) (by decide +kernel), List.mem_of_getElem? (i := 505) (by decide +kernel), List.mem_of_getElem? (i := 506) (by decide +kernel)⟩
theorem lw_p13 : lw_okq (⟨"SilenceHours$Plan", "failAt", "(I)V"⟩, 8) := ⟨⟨by decide +kernel, by decide +kernel⟩, List.mem_of_getElem? (i := 118) (by decide +kernel), List.mem_of_getElem? (i := 509) (by decide +kernel), List.mem_of_getElem? (i := 510) (by decide +kernel)⟩
theorem lw_p14 : lw_okq (⟨"SilenceHours$Plan", "openGroup", "(I)V"⟩, 8) := ⟨⟨by decide +kernel, by decide +kernel⟩, List.mem_of_getElem? (i := 118) (by decide +kernel), List.mem_of_getElem? (i := 513) (by decide +kernel), List.mem_of_getElem? (i := 514) (by decide +kernel)⟩
theorem lw_p15 : lw_okq (⟨"SilenceHours$Plan", "takeNumber", "(II)I"⟩, 8) := ⟨⟨by decide +kernel, by decide +kernel⟩, List.mem_of_getElem? (i := 118) (by decide +kernel), List.mem_of_getElem? (i := 521) (by decide +kernel), List.mem_of_getElem? (i := 522) (by decide +kernel)⟩
def lw_privs_1 : List (MethodName × Nat) := [(⟨"SilenceHours$State", "quietFrom", "(II)I"⟩, 19), (⟨"SilenceHours", "isPerson", "(I)Z"⟩, 5), (⟨"SilenceHours$State", "settleBids", "(I)V"⟩, 19), (⟨"SilenceHours$State", "collectFrom", "(II)I"⟩, 19), (⟨"SilenceHours$State", "shareOut", "(III)I"⟩, 19), (⟨"SilenceHours$State", "biddersForQuiet", "(I)I"⟩, 19), (⟨"SilenceHours$State", "shareFine", "(II)I"⟩, 19), (⟨"SilenceHours$Plan", "hasFailed", "()Z"⟩, 8), (⟨"SilenceHours$Plan", "readPiece", "()V"⟩, 8), (⟨"SilenceHours$Plan", "sign", "()I"⟩, 8), (⟨"SilenceHours$Plan", "closeGroup", "()V"⟩, 8), (⟨"SilenceHours$Plan", "take", "(C)V"⟩, 8), (⟨"SilenceHours$Plan", "takeIf", "(C)Z"⟩, 8), (⟨"SilenceHours$Plan", "failAt", "(I)V"⟩, 8), (⟨"SilenceHours$Plan", "openGroup", "(I)V"⟩, 8), (⟨"SilenceHours$Plan", "takeNumber", "(II)I"⟩, 8)]
theorem lw_r1 : ∀ q ∈ lw_privs_1, lw_okq q := List.forall_mem_cons.mpr ⟨lw_p0, List.forall_mem_cons.mpr ⟨lw_p1, List.forall_mem_cons.mpr ⟨lw_p2, List.forall_mem_cons.mpr ⟨lw_p3, List.forall_mem_cons.mpr ⟨lw_p4, List.forall_mem_cons.mpr ⟨lw_p5, List.forall_mem_cons.mpr ⟨lw_p6, List.forall_mem_cons.mpr ⟨lw_p7, List.forall_mem_cons.mpr ⟨lw_p8, List.forall_mem_cons.mpr ⟨lw_p9, List.forall_mem_cons.mpr ⟨lw_p10, List.forall_mem_cons.mpr ⟨lw_p11, List.forall_mem_cons.mpr ⟨lw_p12, List.forall_mem_cons.mpr ⟨lw_p13, List.forall_mem_cons.mpr ⟨lw_p14, List.forall_mem_cons.mpr ⟨lw_p15, fun _ h => absurd h List.not_mem_nil⟩⟩⟩⟩⟩⟩⟩⟩⟩⟩⟩⟩⟩⟩⟩⟩
theorem lw_p16 : lw_okq (⟨"SilenceHours$Plan", "skip", "()V"⟩, 8) := ⟨⟨by decide +kernel, by decide +kernel⟩, List.mem_of_getElem? (i := 118) (by decide +kernel), List.mem_of_getElem? (i := 525) (by decide +kernel), List.mem_of_getElem? (i := 526) (by decide +kernel)⟩
theorem lw_p17 : lw_okq (⟨"SilenceHours$Plan", "readBids", "()V"⟩, 8) := ⟨⟨by decide +kernel, by decide +kernel⟩, List.mem_of_getElem? (i := 118) (by decide +kernel), List.mem_of_getElem? (i := 529) (by decide +kernel), List.mem_of_getElem? (i := 530) (by decide +kernel)⟩
theorem lw_p18 : lw_okq (⟨"SilenceHours$Plan", "takeStreet", "()I"⟩, 8) := ⟨⟨by decide +kernel, by decide +kernel⟩, List.mem_of_getElem? (i := 118) (by decide +kernel), List.mem_of_getElem? (i := 533) (by decide +kernel), List.mem_of_getElem? (i := 534) (by decide +kernel)⟩
theorem lw_p19 : lw_okq (⟨"SilenceHours", "failPlan", "(IIIII)I"⟩, 5) := ⟨⟨by decide +kernel, by decide +kernel⟩, List.mem_of_getElem? (i := 11) (by decide +kernel), List.mem_of_getElem? (i := 538) (by decide +kernel), List.mem_of_getElem? (i := 539) (by decide +kernel)⟩
def lw_privs_2 : List (MethodName × Nat) := [(⟨"SilenceHours$Plan", "skip", "()V"⟩, 8), (⟨"SilenceHours$Plan", "readBids", "()V"⟩, 8), (⟨"SilenceHours$Plan", "takeStreet", "()I"⟩, 8), (⟨"SilenceHours", "failPlan", "(IIIII)I"⟩, 5)]
theorem lw_r2 : ∀ q ∈ lw_privs_2, lw_okq q := List.forall_mem_cons.mpr ⟨lw_p16, List.forall_mem_cons.mpr ⟨lw_p17, List.forall_mem_cons.mpr ⟨lw_p18, List.forall_mem_cons.mpr ⟨lw_p19, fun _ h => absurd h List.not_mem_nil⟩⟩⟩⟩
def lw_privs : List (MethodName × Nat) := lw_privs_1 ++ (lw_privs_2)
def lw_tbl : List Cond := k2_sels lw_privs ++ tables_1
theorem lw_privs_ok : ∀ q ∈ lw_privs, lw_okq q := by
  show ∀ q ∈ lw_privs_1 ++ (lw_privs_2), lw_okq q
  exact List.forall_mem_append.mpr ⟨lw_r1, lw_r2⟩
/-! ===== BEGIN words of one list among another's, by their places ===== -/
/-! ===== END ===== -/

/-! ===== BEGIN printed: names, fields, word lists, decode rows ===== -/
def RX0 : String := "SilenceHours$History"
def TX0 : u_T := fun k => match k with
  | 0 => ("SilenceHours$History", "rows", "[LSilenceHours$State;", true)
  | 1 => ("SilenceHours$History", "oldest", "I", false)
  | _ => ("SilenceHours$History", "size", "I", false)
def tyX0 : Nat → FieldType := fun k => match k with
  | 0 => .array (.object "SilenceHours$State")
  | 1 => .int
  | _ => .int
abbrev wsX00 : List Cond := u_ws RX0 TX0 3
theorem nmX0 : ∀ a, a < 3 → ∀ b, b < 3 → a ≠ b → (TX0 a).2.1 ≠ (TX0 b).2.1 := by decide +kernel
theorem tyX0_ok : ∀ k, k < 3 → parseFieldDescriptor (TX0 k).2.2.1 = some (tyX0 k) := by decide +kernel
abbrev cX0_init : ByteArray := prog_2_method_1_code
def yX0_init : MethodName := ⟨RX0, "<init>", "()V"⟩
abbrev cX0_record : ByteArray := prog_2_method_2_code
def yX0_record : MethodName := ⟨RX0, "record", "(LSilenceHours$State;)V"⟩
abbrev cX0_restoreLatest : ByteArray := prog_2_method_3_code
def yX0_restoreLatest : MethodName := ⟨RX0, "restoreLatest", "(LSilenceHours$State;)V"⟩
def RX1 : String := "SilenceHours$Part"
def TX1 : u_T := fun k => match k with
  | 0 => ("SilenceHours$Part", "place", "I", false)
  | 1 => ("SilenceHours$Part", "depth", "I", false)
  | 2 => ("SilenceHours$Part", "side", "I", false)
  | 3 => ("SilenceHours$Part", "street", "I", false)
  | 4 => ("SilenceHours$Part", "firstHour", "I", false)
  | 5 => ("SilenceHours$Part", "lastHour", "I", false)
  | _ => ("SilenceHours$Part", "amount", "I", false)
def tyX1 : Nat → FieldType := fun k => match k with
  | 0 => .int
  | 1 => .int
  | 2 => .int
  | 3 => .int
  | 4 => .int
  | 5 => .int
  | _ => .int
abbrev wsX10 : List Cond := u_ws RX1 TX1 7
theorem nmX1 : ∀ a, a < 7 → ∀ b, b < 7 → a ≠ b → (TX1 a).2.1 ≠ (TX1 b).2.1 := by decide +kernel
theorem tyX1_ok : ∀ k, k < 7 → parseFieldDescriptor (TX1 k).2.2.1 = some (tyX1 k) := by decide +kernel
abbrev cX1_init : ByteArray := prog_3_method_1_code
def yX1_init : MethodName := ⟨RX1, "<init>", "()V"⟩
def RX2 : String := "SilenceHours$Plan"
def TX2 : u_T := fun k => match k with
  | 0 => ("SilenceHours$Plan", "text", "[I", true)
  | 1 => ("SilenceHours$Plan", "length", "I", false)
  | 2 => ("SilenceHours$Plan", "parts", "[LSilenceHours$Part;", true)
  | 3 => ("SilenceHours$Plan", "partCount", "I", false)
  | 4 => ("SilenceHours$Plan", "failedAt", "I", false)
  | 5 => ("SilenceHours$Plan", "depth", "I", false)
  | 6 => ("SilenceHours$Plan", "position", "I", false)
  | _ => ("SilenceHours$Plan", "factors", "[I", true)
def tyX2 : Nat → FieldType := fun k => match k with
  | 0 => .array .int
  | 1 => .int
  | 2 => .array (.object "SilenceHours$Part")
  | 3 => .int
  | 4 => .int
  | 5 => .int
  | 6 => .int
  | _ => .array .int
abbrev wsX20 : List Cond := u_ws RX2 TX2 8
theorem nmX2 : ∀ a, a < 8 → ∀ b, b < 8 → a ≠ b → (TX2 a).2.1 ≠ (TX2 b).2.1 := by decide +kernel
theorem tyX2_ok : ∀ k, k < 8 → parseFieldDescriptor (TX2 k).2.2.1 = some (tyX2 k) := by decide +kernel
abbrev cX2_init : ByteArray := prog_4_method_1_code
def yX2_init : MethodName := ⟨RX2, "<init>", "()V"⟩
abbrev cX2_readText : ByteArray := prog_4_method_2_code
def yX2_readText : MethodName := ⟨RX2, "readText", "()Z"⟩
abbrev cX2_readPiece : ByteArray := prog_4_method_3_code
def yX2_readPiece : MethodName := ⟨RX2, "readPiece", "()V"⟩
abbrev cX2_openGroup : ByteArray := prog_4_method_4_code
def yX2_openGroup : MethodName := ⟨RX2, "openGroup", "(I)V"⟩
abbrev cX2_closeGroup : ByteArray := prog_4_method_5_code
def yX2_closeGroup : MethodName := ⟨RX2, "closeGroup", "()V"⟩
abbrev cX2_readBids : ByteArray := prog_4_method_6_code
def yX2_readBids : MethodName := ⟨RX2, "readBids", "()V"⟩
abbrev cX2_takeStreet : ByteArray := prog_4_method_7_code
def yX2_takeStreet : MethodName := ⟨RX2, "takeStreet", "()I"⟩
abbrev cX2_takeNumber : ByteArray := prog_4_method_8_code
def yX2_takeNumber : MethodName := ⟨RX2, "takeNumber", "(II)I"⟩
abbrev cX2_take : ByteArray := prog_4_method_9_code
def yX2_take : MethodName := ⟨RX2, "take", "(C)V"⟩
abbrev cX2_takeIf : ByteArray := prog_4_method_10_code
def yX2_takeIf : MethodName := ⟨RX2, "takeIf", "(C)Z"⟩
abbrev cX2_skip : ByteArray := prog_4_method_11_code
def yX2_skip : MethodName := ⟨RX2, "skip", "()V"⟩
abbrev cX2_sign : ByteArray := prog_4_method_12_code
def yX2_sign : MethodName := ⟨RX2, "sign", "()I"⟩
abbrev cX2_isDigit : ByteArray := prog_4_method_13_code
def yX2_isDigit : MethodName := ⟨RX2, "isDigit", "(I)Z"⟩
abbrev cX2_failAt : ByteArray := prog_4_method_14_code
def yX2_failAt : MethodName := ⟨RX2, "failAt", "(I)V"⟩
abbrev cX2_hasFailed : ByteArray := prog_4_method_15_code
def yX2_hasFailed : MethodName := ⟨RX2, "hasFailed", "()Z"⟩
def RX3 : String := "SilenceHours$State"
def TX3 : u_T := fun k => match k with
  | 0 => ("SilenceHours$State", "day", "I", false)
  | 1 => ("SilenceHours$State", "fine", "I", false)
  | 2 => ("SilenceHours$State", "breaches", "I", false)
  | 3 => ("SilenceHours$State", "people", "I", false)
  | 4 => ("SilenceHours$State", "purses", "[I", true)
  | 5 => ("SilenceHours$State", "heldForBids", "[I", true)
  | 6 => ("SilenceHours$State", "debts", "[I", true)
  | 7 => ("SilenceHours$State", "breachStreets", "[I", true)
  | 8 => ("SilenceHours$State", "bidsWon", "[I", true)
  | 9 => ("SilenceHours$State", "paidForWon", "[I", true)
  | 10 => ("SilenceHours$State", "sharedOut", "[I", true)
  | 11 => ("SilenceHours$State", "breachesBy", "[I", true)
  | 12 => ("SilenceHours$State", "bids", "[I", true)
  | 13 => ("SilenceHours$State", "owners", "[I", true)
  | 14 => ("SilenceHours$State", "carried", "[I", true)
  | 15 => ("SilenceHours$State", "tieSides", "[I", true)
  | 16 => ("SilenceHours$State", "quietWinners", "[I", true)
  | 17 => ("SilenceHours$State", "lastPaid", "[I", true)
  | _ => ("SilenceHours$State", "funds", "[I", true)
def tyX3 : Nat → FieldType := fun k => match k with
  | 0 => .int
  | 1 => .int
  | 2 => .int
  | 3 => .int
  | 4 => .array .int
  | 5 => .array .int
  | 6 => .array .int
  | 7 => .array .int
  | 8 => .array .int
  | 9 => .array .int
  | 10 => .array .int
  | 11 => .array .int
  | 12 => .array .int
  | 13 => .array .int
  | 14 => .array .int
  | 15 => .array .int
  | 16 => .array .int
  | 17 => .array .int
  | _ => .array .int
abbrev wsX30 : List Cond := u_ws RX3 TX3 19
theorem nmX3 : ∀ a, a < 19 → ∀ b, b < 19 → a ≠ b → (TX3 a).2.1 ≠ (TX3 b).2.1 := by decide +kernel
theorem tyX3_ok : ∀ k, k < 19 → parseFieldDescriptor (TX3 k).2.2.1 = some (tyX3 k) := by decide +kernel
abbrev cX3_init : ByteArray := prog_5_method_1_code
def yX3_init : MethodName := ⟨RX3, "<init>", "()V"⟩
abbrev cX3_copyFrom : ByteArray := prog_5_method_2_code
def yX3_copyFrom : MethodName := ⟨RX3, "copyFrom", "(LSilenceHours$State;)V"⟩
abbrev cX3_markedBid : ByteArray := prog_5_method_3_code
def yX3_markedBid : MethodName := ⟨RX3, "markedBid", "(II)I"⟩
abbrev cX3_bidFor : ByteArray := prog_5_method_4_code
def yX3_bidFor : MethodName := ⟨RX3, "bidFor", "(III)I"⟩
abbrev cX3_bidAmount : ByteArray := prog_5_method_5_code
def yX3_bidAmount : MethodName := ⟨RX3, "bidAmount", "(II)I"⟩
abbrev cX3_freeMoney : ByteArray := prog_5_method_6_code
def yX3_freeMoney : MethodName := ⟨RX3, "freeMoney", "(I)I"⟩
abbrev cX3_bidError : ByteArray := prog_5_method_7_code
def yX3_bidError : MethodName := ⟨RX3, "bidError", "(III)I"⟩
abbrev cX3_placeBid : ByteArray := prog_5_method_8_code
def yX3_placeBid : MethodName := ⟨RX3, "placeBid", "(IIII)I"⟩
abbrev cX3_bidsBy : ByteArray := prog_5_method_9_code
def yX3_bidsBy : MethodName := ⟨RX3, "bidsBy", "(I)I"⟩
abbrev cX3_bidsFor : ByteArray := prog_5_method_10_code
def yX3_bidsFor : MethodName := ⟨RX3, "bidsFor", "(I)I"⟩
abbrev cX3_sumOfBids : ByteArray := prog_5_method_11_code
def yX3_sumOfBids : MethodName := ⟨RX3, "sumOfBids", "(II)I"⟩
abbrev cX3_receive : ByteArray := prog_5_method_12_code
def yX3_receive : MethodName := ⟨RX3, "receive", "(II)V"⟩
abbrev cX3_canBePaid : ByteArray := prog_5_method_13_code
def yX3_canBePaid : MethodName := ⟨RX3, "canBePaid", "(II)Z"⟩
abbrev cX3_allMoney : ByteArray := prog_5_method_14_code
def yX3_allMoney : MethodName := ⟨RX3, "allMoney", "()I"⟩
abbrev cX3_allDebts : ByteArray := prog_5_method_15_code
def yX3_allDebts : MethodName := ⟨RX3, "allDebts", "()I"⟩
abbrev cX3_allBids : ByteArray := prog_5_method_16_code
def yX3_allBids : MethodName := ⟨RX3, "allBids", "()I"⟩
abbrev cX3_strength : ByteArray := prog_5_method_17_code
def yX3_strength : MethodName := ⟨RX3, "strength", "(II)I"⟩
abbrev cX3_ownerThen : ByteArray := prog_5_method_18_code
def yX3_ownerThen : MethodName := ⟨RX3, "ownerThen", "(I)I"⟩
abbrev cX3_missingFor : ByteArray := prog_5_method_19_code
def yX3_missingFor : MethodName := ⟨RX3, "missingFor", "(II)I"⟩
abbrev cX3_settleDay : ByteArray := prog_5_method_20_code
def yX3_settleDay : MethodName := ⟨RX3, "settleDay", "()V"⟩
abbrev cX3_settleBids : ByteArray := prog_5_method_21_code
def yX3_settleBids : MethodName := ⟨RX3, "settleBids", "(I)V"⟩
abbrev cX3_collectFrom : ByteArray := prog_5_method_22_code
def yX3_collectFrom : MethodName := ⟨RX3, "collectFrom", "(II)I"⟩
abbrev cX3_shareOut : ByteArray := prog_5_method_23_code
def yX3_shareOut : MethodName := ⟨RX3, "shareOut", "(III)I"⟩
abbrev cX3_biddersForQuiet : ByteArray := prog_5_method_24_code
def yX3_biddersForQuiet : MethodName := ⟨RX3, "biddersForQuiet", "(I)I"⟩
abbrev cX3_noteBreach : ByteArray := prog_5_method_25_code
def yX3_noteBreach : MethodName := ⟨RX3, "noteBreach", "(II)I"⟩
abbrev cX3_shareFine : ByteArray := prog_5_method_26_code
def yX3_shareFine : MethodName := ⟨RX3, "shareFine", "(II)I"⟩
abbrev cX3_noisySlots : ByteArray := prog_5_method_27_code
def yX3_noisySlots : MethodName := ⟨RX3, "noisySlots", "()I"⟩
abbrev cX3_quietHours : ByteArray := prog_5_method_28_code
def yX3_quietHours : MethodName := ⟨RX3, "quietHours", "(I)I"⟩
abbrev cX3_longestQuiet : ByteArray := prog_5_method_29_code
def yX3_longestQuiet : MethodName := ⟨RX3, "longestQuiet", "(I)I"⟩
abbrev cX3_longestQuietStart : ByteArray := prog_5_method_30_code
def yX3_longestQuietStart : MethodName := ⟨RX3, "longestQuietStart", "(I)I"⟩
abbrev cX3_quietFrom : ByteArray := prog_5_method_31_code
def yX3_quietFrom : MethodName := ⟨RX3, "quietFrom", "(II)I"⟩
def RX4 : String := "SilenceHours"
def TX4 : u_T := fun k => match k with
  | 0 => ("SilenceHours", "state", "LSilenceHours$State;", true)
  | 1 => ("SilenceHours", "spare", "LSilenceHours$State;", true)
  | 2 => ("SilenceHours", "history", "LSilenceHours$History;", true)
  | 3 => ("SilenceHours", "plan", "LSilenceHours$Plan;", true)
  | _ => ("SilenceHours", "failureParts", "[I", true)
def tyX4 : Nat → FieldType := fun k => match k with
  | 0 => .object "SilenceHours$State"
  | 1 => .object "SilenceHours$State"
  | 2 => .object "SilenceHours$History"
  | 3 => .object "SilenceHours$Plan"
  | _ => .array .int
abbrev wsX40 : List Cond := u_ws RX4 TX4 5
theorem nmX4 : ∀ a, a < 5 → ∀ b, b < 5 → a ≠ b → (TX4 a).2.1 ≠ (TX4 b).2.1 := by decide +kernel
theorem tyX4_ok : ∀ k, k < 5 → parseFieldDescriptor (TX4 k).2.2.1 = some (tyX4 k) := by decide +kernel
abbrev cX4_init : ByteArray := prog_1_method_1_code
def yX4_init : MethodName := ⟨RX4, "<init>", "()V"⟩
abbrev cX4_join : ByteArray := prog_1_method_2_code
def yX4_join : MethodName := ⟨RX4, "join", "(I)I"⟩
abbrev cX4_pay : ByteArray := prog_1_method_3_code
def yX4_pay : MethodName := ⟨RX4, "pay", "(II)I"⟩
abbrev cX4_bid : ByteArray := prog_1_method_4_code
def yX4_bid : MethodName := ⟨RX4, "bid", "(IIIII)I"⟩
abbrev cX4_setFine : ByteArray := prog_1_method_5_code
def yX4_setFine : MethodName := ⟨RX4, "setFine", "(I)I"⟩
abbrev cX4_settle : ByteArray := prog_1_method_6_code
def yX4_settle : MethodName := ⟨RX4, "settle", "()I"⟩
abbrev cX4_breach : ByteArray := prog_1_method_7_code
def yX4_breach : MethodName := ⟨RX4, "breach", "(III)I"⟩
abbrev cX4_undo : ByteArray := prog_1_method_8_code
def yX4_undo : MethodName := ⟨RX4, "undo", "()I"⟩
abbrev cX4_append : ByteArray := prog_1_method_9_code
def yX4_append : MethodName := ⟨RX4, "append", "(I)I"⟩
abbrev cX4_clearText : ByteArray := prog_1_method_10_code
def yX4_clearText : MethodName := ⟨RX4, "clearText", "()I"⟩
abbrev cX4_run : ByteArray := prog_1_method_11_code
def yX4_run : MethodName := ⟨RX4, "run", "(I)I"⟩
abbrev cX4_failure : ByteArray := prog_1_method_12_code
def yX4_failure : MethodName := ⟨RX4, "failure", "(I)I"⟩
abbrev cX4_count : ByteArray := prog_1_method_13_code
def yX4_count : MethodName := ⟨RX4, "count", "(I)I"⟩
abbrev cX4_person : ByteArray := prog_1_method_14_code
def yX4_person : MethodName := ⟨RX4, "person", "(II)I"⟩
abbrev cX4_slot : ByteArray := prog_1_method_15_code
def yX4_slot : MethodName := ⟨RX4, "slot", "(III)I"⟩
abbrev cX4_bidOf : ByteArray := prog_1_method_16_code
def yX4_bidOf : MethodName := ⟨RX4, "bidOf", "(III)I"⟩
abbrev cX4_fund : ByteArray := prog_1_method_17_code
def yX4_fund : MethodName := ⟨RX4, "fund", "(I)I"⟩
abbrev cX4_winner : ByteArray := prog_1_method_18_code
def yX4_winner : MethodName := ⟨RX4, "winner", "(II)I"⟩
abbrev cX4_needed : ByteArray := prog_1_method_19_code
def yX4_needed : MethodName := ⟨RX4, "needed", "(III)I"⟩
abbrev cX4_quiet : ByteArray := prog_1_method_20_code
def yX4_quiet : MethodName := ⟨RX4, "quiet", "(II)I"⟩
abbrev cX4_purseThen : ByteArray := prog_1_method_21_code
def yX4_purseThen : MethodName := ⟨RX4, "purseThen", "(I)I"⟩
abbrev cX4_failPlan : ByteArray := prog_1_method_22_code
def yX4_failPlan : MethodName := ⟨RX4, "failPlan", "(IIIII)I"⟩
abbrev cX4_isPerson : ByteArray := prog_1_method_23_code
def yX4_isPerson : MethodName := ⟨RX4, "isPerson", "(I)Z"⟩
abbrev cX4_isStreet : ByteArray := prog_1_method_24_code
def yX4_isStreet : MethodName := ⟨RX4, "isStreet", "(I)Z"⟩
abbrev cX4_isSlot : ByteArray := prog_1_method_25_code
def yX4_isSlot : MethodName := ⟨RX4, "isSlot", "(II)Z"⟩
abbrev cX4_isSide : ByteArray := prog_1_method_26_code
def yX4_isSide : MethodName := ⟨RX4, "isSide", "(I)Z"⟩
abbrev cX4_isWithin : ByteArray := prog_1_method_27_code
def yX4_isWithin : MethodName := ⟨RX4, "isWithin", "(III)Z"⟩
abbrev cX4_slotAt : ByteArray := prog_1_method_28_code
def yX4_slotAt : MethodName := ⟨RX4, "slotAt", "(II)I"⟩
abbrev cX4_otherSide : ByteArray := prog_1_method_29_code
def yX4_otherSide : MethodName := ⟨RX4, "otherSide", "(I)I"⟩
def RX5 : String := "SilenceHoursModel"
def TX5 : u_T := fun k => match k with
  | _ => ("", "", "", false)
def tyX5 : Nat → FieldType := fun k => match k with
  | _ => .int
abbrev wsX50 : List Cond := u_ws RX5 TX5 0
theorem nmX5 : ∀ a, a < 0 → ∀ b, b < 0 → a ≠ b → (TX5 a).2.1 ≠ (TX5 b).2.1 := by decide +kernel
theorem tyX5_ok : ∀ k, k < 0 → parseFieldDescriptor (TX5 k).2.2.1 = some (tyX5 k) := by decide +kernel
def RJ6 : String := "java/lang/Integer"
def TJ6 : u_T := fun k => match k with
  | _ => ("", "", "", false)
def tyJ6 : Nat → FieldType := fun k => match k with
  | _ => .int
abbrev wsJ60 : List Cond := u_ws RJ6 TJ6 0
theorem nmJ6 : ∀ a, a < 0 → ∀ b, b < 0 → a ≠ b → (TJ6 a).2.1 ≠ (TJ6 b).2.1 := by decide +kernel
theorem tyJ6_ok : ∀ k, k < 0 → parseFieldDescriptor (TJ6 k).2.2.1 = some (tyJ6 k) := by decide +kernel
abbrev cJ6_bitCount_0f7a4 : ByteArray := prog_8_method_49_code
def yJ6_bitCount_0f7a4 : MethodName := ⟨RJ6, "bitCount", "(I)I"⟩
def RJ9 : String := "java/lang/Math"
def TJ9 : u_T := fun k => match k with
  | _ => ("", "", "", false)
def tyJ9 : Nat → FieldType := fun k => match k with
  | _ => .int
abbrev wsJ90 : List Cond := u_ws RJ9 TJ9 0
theorem nmJ9 : ∀ a, a < 0 → ∀ b, b < 0 → a ≠ b → (TJ9 a).2.1 ≠ (TJ9 b).2.1 := by decide +kernel
theorem tyJ9_ok : ∀ k, k < 0 → parseFieldDescriptor (TJ9 k).2.2.1 = some (tyJ9 k) := by decide +kernel
abbrev cJ9_max_7cf53 : ByteArray := prog_9_method_65_code
def yJ9_max_7cf53 : MethodName := ⟨RJ9, "max", "(II)I"⟩
abbrev cJ9_min_7cf53 : ByteArray := prog_9_method_69_code
def yJ9_min_7cf53 : MethodName := ⟨RJ9, "min", "(II)I"⟩
def RJ10 : String := "java/lang/System"
def TJ10 : u_T := fun k => match k with
  | _ => ("", "", "", false)
def tyJ10 : Nat → FieldType := fun k => match k with
  | _ => .int
abbrev wsJ100 : List Cond := u_ws RJ10 TJ10 0
theorem nmJ10 : ∀ a, a < 0 → ∀ b, b < 0 → a ≠ b → (TJ10 a).2.1 ≠ (TJ10 b).2.1 := by decide +kernel
theorem tyJ10_ok : ∀ k, k < 0 → parseFieldDescriptor (TJ10 k).2.2.1 = some (tyJ10 k) := by decide +kernel
def RJ7 : String := "java/util/Arrays"
def TJ7 : u_T := fun k => match k with
  | _ => ("", "", "", false)
def tyJ7 : Nat → FieldType := fun k => match k with
  | _ => .int
abbrev wsJ70 : List Cond := u_ws RJ7 TJ7 0
theorem nmJ7 : ∀ a, a < 0 → ∀ b, b < 0 → a ≠ b → (TJ7 a).2.1 ≠ (TJ7 b).2.1 := by decide +kernel
theorem tyJ7_ok : ∀ k, k < 0 → parseFieldDescriptor (TJ7 k).2.2.1 = some (tyJ7 k) := by decide +kernel
abbrev cJ7_fill_53178 : ByteArray := prog_11_method_103_code
def yJ7_fill_53178 : MethodName := ⟨RJ7, "fill", "([II)V"⟩
def RL : String := "SilenceHoursLaw"
abbrev cL_cell : ByteArray := method_2_code
def yL_cell : MethodName := ⟨RL, "cell", "([II)I"⟩
abbrev cL_isSound : ByteArray := method_3_code
def yL_isSound : MethodName := ⟨RL, "isSound", "(LSilenceHours;I)Z"⟩
abbrev cL_turns : ByteArray := method_4_code
def yL_turns : MethodName := ⟨RL, "turns", "(LSilenceHours;II)Z"⟩
abbrev cL_settles : ByteArray := method_5_code
def yL_settles : MethodName := ⟨RL, "settles", "(LSilenceHours;II)Z"⟩
abbrev cL_breaches : ByteArray := method_6_code
def yL_breaches : MethodName := ⟨RL, "breaches", "(LSilenceHours;III)Z"⟩
abbrev cL_plans : ByteArray := method_7_code
def yL_plans : MethodName := ⟨RL, "plans", "(LSilenceHours;IIIII)Z"⟩
abbrev cL_refuses : ByteArray := method_8_code
def yL_refuses : MethodName := ⟨RL, "refuses", "(LSilenceHours;)Z"⟩
abbrev cL_acts : ByteArray := method_9_code
def yL_acts : MethodName := ⟨RL, "acts", "(LSilenceHours;I)Z"⟩
abbrev cL_law : ByteArray := code
def yL_law : MethodName := ⟨RL, "law", "([I)Z"⟩
abbrev vwCl : List vw_C := [(RX0, TX0, 3), (RX1, TX1, 7), (RX2, TX2, 8), (RX3, TX3, 19), (RX4, TX4, 5)]
