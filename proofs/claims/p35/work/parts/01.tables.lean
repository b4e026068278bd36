-- ===== PART A: goes FIRST, ahead of the names: the tables' words, and 'selects' of the private methods out of them =====
/-- a private method of a class that the tables say can be made, by its rows of tables_1 -/
def lw_okq (q : MethodName × Nat) : Prop := (q.1.cls ≠ "java/lang/invoke/MethodHandle" ∧ q.1.cls ≠ "java/lang/invoke/VarHandle") ∧ Cond.instantiable q.1.cls q.2 ∈ tables_1 ∧ Cond.privateMethod q.1 ∈ tables_1 ∧ Cond.instanceMethod q.1 ∈ tables_1
theorem lw_p0 : lw_okq (⟨"StateObserver$SystemText", "takeHead", "()V"⟩, 6) := ⟨⟨by decide +kernel, by decide +kernel⟩, List.mem_of_getElem? (i := 207) (by decide +kernel), List.mem_of_getElem? (i := 333) (by decide +kernel), List.mem_of_getElem? (i := 334) (by decide +kernel)⟩
theorem lw_p1 : lw_okq (⟨"StateObserver$SystemText", "takeCharacter", "(CC)Z"⟩, 6) := ⟨⟨by decide +kernel, by decide +kernel⟩, List.mem_of_getElem? (i := 207) (by decide +kernel), List.mem_of_getElem? (i := 337) (by decide +kernel), List.mem_of_getElem? (i := 338) (by decide +kernel)⟩
theorem lw_p2 : lw_okq (⟨"StateObserver$SystemText", "takeDigit", "(II)I"⟩, 6) := ⟨⟨by decide +kernel, by decide +kernel⟩, List.mem_of_getElem? (i := 207) (by decide +kernel), List.mem_of_getElem? (i := 341) (by decide +kernel), List.mem_of_getElem? (i := 342) (by decide +kernel)⟩
theorem lw_p3 : lw_okq (⟨"StateObserver$SystemText", "takeTwoDigits", "(I)I"⟩, 6) := ⟨⟨by decide +kernel, by decide +kernel⟩, List.mem_of_getElem? (i := 207) (by decide +kernel), List.mem_of_getElem? (i := 345) (by decide +kernel), List.mem_of_getElem? (i := 346) (by decide +kernel)⟩
theorem lw_p4 : lw_okq (⟨"StateObserver$SystemText", "takeState", "(I)V"⟩, 6) := ⟨⟨by decide +kernel, by decide +kernel⟩, List.mem_of_getElem? (i := 207) (by decide +kernel), List.mem_of_getElem? (i := 349) (by decide +kernel), List.mem_of_getElem? (i := 350) (by decide +kernel)⟩
theorem lw_p5 : lw_okq (⟨"StateObserver$SystemText", "takeNumber", "()I"⟩, 6) := ⟨⟨by decide +kernel, by decide +kernel⟩, List.mem_of_getElem? (i := 207) (by decide +kernel), List.mem_of_getElem? (i := 353) (by decide +kernel), List.mem_of_getElem? (i := 354) (by decide +kernel)⟩
theorem lw_p6 : lw_okq (⟨"StateObserver$SystemText", "takeOutput", "(I)V"⟩, 6) := ⟨⟨by decide +kernel, by decide +kernel⟩, List.mem_of_getElem? (i := 207) (by decide +kernel), List.mem_of_getElem? (i := 357) (by decide +kernel), List.mem_of_getElem? (i := 358) (by decide +kernel)⟩
theorem lw_p7 : lw_okq (⟨"StateObserver$SystemText", "takeGain", "()V"⟩, 6) := ⟨⟨by decide +kernel, by decide +kernel⟩, List.mem_of_getElem? (i := 207) (by decide +kernel), List.mem_of_getElem? (i := 365) (by decide +kernel), List.mem_of_getElem? (i := 366) (by decide +kernel)⟩
theorem lw_p8 : lw_okq (⟨"StateObserver", "isOutput", "(I)Z"⟩, 9) := ⟨⟨by decide +kernel, by decide +kernel⟩, List.mem_of_getElem? (i := 19) (by decide +kernel), List.mem_of_getElem? (i := 387) (by decide +kernel), List.mem_of_getElem? (i := 388) (by decide +kernel)⟩
theorem lw_p9 : lw_okq (⟨"java/lang/Throwable", "fillInStackTrace", "(I)Ljava/lang/Throwable;"⟩, 6) := ⟨⟨by decide +kernel, by decide +kernel⟩, List.mem_of_getElem? (i := 429) (by decide +kernel), List.mem_of_getElem? (i := 427) (by decide +kernel), List.mem_of_getElem? (i := 428) (by decide +kernel)⟩
theorem lw_p10 : lw_okq (⟨"StateObserver", "isState", "(I)Z"⟩, 9) := ⟨⟨by decide +kernel, by decide +kernel⟩, List.mem_of_getElem? (i := 19) (by decide +kernel), List.mem_of_getElem? (i := 627) (by decide +kernel), List.mem_of_getElem? (i := 628) (by decide +kernel)⟩
theorem lw_p11 : lw_okq (⟨"StateObserver", "columnsOf", "(I)I"⟩, 9) := ⟨⟨by decide +kernel, by decide +kernel⟩, List.mem_of_getElem? (i := 19) (by decide +kernel), List.mem_of_getElem? (i := 632) (by decide +kernel), List.mem_of_getElem? (i := 633) (by decide +kernel)⟩
theorem lw_p12 : lw_okq (⟨"StateObserver$Ranks", "putOutput", "(LStateObserver$Plant;I[J)V"⟩, 6) := ⟨⟨by decide +kernel, by decide +kernel⟩, List.mem_of_getElem? (i := 254) (by decide +kernel), List.mem_of_getElem? (i := 653) (by decide +kernel), List.mem_of_getElem? (i := 654) (by decide +kernel)⟩
theorem lw_p13 : lw_okq (⟨"StateObserver$Ranks", "multiply", "(LStateObserver$Plant;[J)V"⟩, 6) := ⟨⟨by decide +kernel, by decide +kernel⟩, List.mem_of_getElem? (i := 254) (by decide +kernel), List.mem_of_getElem? (i := 674) (by decide +kernel), List.mem_of_getElem? (i := 675) (by decide +kernel)⟩
theorem lw_p14 : lw_okq (⟨"StateObserver$Motion", "advanceEstimates", "(LStateObserver$Plant;LStateObserver$Moment;I)V"⟩, 2) := ⟨⟨by decide +kernel, by decide +kernel⟩, List.mem_of_getElem? (i := 240) (by decide +kernel), List.mem_of_getElem? (i := 740) (by decide +kernel), List.mem_of_getElem? (i := 741) (by decide +kernel)⟩
theorem lw_p15 : lw_okq (⟨"StateObserver$Motion", "deviationOf", "(LStateObserver$Plant;LStateObserver$Moment;I)J"⟩, 2) := ⟨⟨by decide +kernel, by decide +kernel⟩, List.mem_of_getElem? (i := 240) (by decide +kernel), List.mem_of_getElem? (i := 744) (by decide +kernel), List.mem_of_getElem? (i := 745) (by decide +kernel)⟩
def lw_privs_1 : List (MethodName × Nat) := [(⟨"StateObserver$SystemText", "takeHead", "()V"⟩, 6), (⟨"StateObserver$SystemText", "takeCharacter", "(CC)Z"⟩, 6), (⟨"StateObserver$SystemText", "takeDigit", "(II)I"⟩, 6), (⟨"StateObserver$SystemText", "takeTwoDigits", "(I)I"⟩, 6), (⟨"StateObserver$SystemText", "takeState", "(I)V"⟩, 6), (⟨"StateObserver$SystemText", "takeNumber", "()I"⟩, 6), (⟨"StateObserver$SystemText", "takeOutput", "(I)V"⟩, 6), (⟨"StateObserver$SystemText", "takeGain", "()V"⟩, 6), (⟨"StateObserver", "isOutput", "(I)Z"⟩, 9), (⟨"java/lang/Throwable", "fillInStackTrace", "(I)Ljava/lang/Throwable;"⟩, 6), (⟨"StateObserver", "isState", "(I)Z"⟩, 9), (⟨"StateObserver", "columnsOf", "(I)I"⟩, 9), (⟨"StateObserver$Ranks", "putOutput", "(LStateObserver$Plant;I[J)V"⟩, 6), (⟨"StateObserver$Ranks", "multiply", "(LStateObserver$Plant;[J)V"⟩, 6), (⟨"StateObserver$Motion", "advanceEstimates", "(LStateObserver$Plant;LStateObserver$Moment;I)V"⟩, 2), (⟨"StateObserver$Motion", "deviationOf", "(LStateObserver$Plant;LStateObserver$Moment;I)J"⟩, 2)]
theorem lw_r1 : ∀ q ∈ lw_privs_1, lw_okq q := List.forall_mem_cons.mpr ⟨lw_p0, List.forall_mem_cons.mpr ⟨lw_p1, List.forall_mem_cons.mpr ⟨lw_p2, List.forall_mem_cons.mpr ⟨lw_p3, List.forall_mem_cons.mpr ⟨lw_p4, List.forall_mem_cons.mpr ⟨lw_p5, List.forall_mem_cons.mpr ⟨lw_p6, List.forall_mem_cons.mpr ⟨lw_p7, List.forall_mem_cons.mpr ⟨lw_p8, List.forall_mem_cons.mpr ⟨lw_p9, List.forall_mem_cons.mpr ⟨lw_p10, List.forall_mem_cons.mpr ⟨lw_p11, List.forall_mem_cons.mpr ⟨lw_p12, List.forall_mem_cons.mpr ⟨lw_p13, List.forall_mem_cons.mpr ⟨lw_p14, List.forall_mem_cons.mpr ⟨lw_p15, fun _ h => absurd h List.not_mem_nil⟩⟩⟩⟩⟩⟩⟩⟩⟩⟩⟩⟩⟩⟩⟩⟩
theorem lw_p16 : lw_okq (⟨"StateObserver$Motion", "advanceTruth", "(LStateObserver$Plant;LStateObserver$Moment;II)V"⟩, 2) := ⟨⟨by decide +kernel, by decide +kernel⟩, List.mem_of_getElem? (i := 240) (by decide +kernel), List.mem_of_getElem? (i := 763) (by decide +kernel), List.mem_of_getElem? (i := 764) (by decide +kernel)⟩
theorem lw_p17 : lw_okq (⟨"StateObserver$Motion", "advanceIntervals", "(LStateObserver$Plant;LStateObserver$Moment;I)V"⟩, 2) := ⟨⟨by decide +kernel, by decide +kernel⟩, List.mem_of_getElem? (i := 240) (by decide +kernel), List.mem_of_getElem? (i := 768) (by decide +kernel), List.mem_of_getElem? (i := 769) (by decide +kernel)⟩
theorem lw_p18 : lw_okq (⟨"StateObserver$Motion", "makePass", "(LStateObserver$Plant;LStateObserver$Moment;)I"⟩, 2) := ⟨⟨by decide +kernel, by decide +kernel⟩, List.mem_of_getElem? (i := 240) (by decide +kernel), List.mem_of_getElem? (i := 792) (by decide +kernel), List.mem_of_getElem? (i := 793) (by decide +kernel)⟩
theorem lw_p19 : lw_okq (⟨"StateObserver$Motion", "cutDown", "(LStateObserver$Plant;LStateObserver$Moment;II)I"⟩, 2) := ⟨⟨by decide +kernel, by decide +kernel⟩, List.mem_of_getElem? (i := 240) (by decide +kernel), List.mem_of_getElem? (i := 796) (by decide +kernel), List.mem_of_getElem? (i := 797) (by decide +kernel)⟩
theorem lw_p20 : lw_okq (⟨"StateObserver", "cannotHave", "(II)Z"⟩, 9) := ⟨⟨by decide +kernel, by decide +kernel⟩, List.mem_of_getElem? (i := 19) (by decide +kernel), List.mem_of_getElem? (i := 812) (by decide +kernel), List.mem_of_getElem? (i := 813) (by decide +kernel)⟩
theorem lw_p21 : lw_okq (⟨"StateObserver$Ranks", "includeEarlier", "(LStateObserver$Plant;)V"⟩, 6) := ⟨⟨by decide +kernel, by decide +kernel⟩, List.mem_of_getElem? (i := 254) (by decide +kernel), List.mem_of_getElem? (i := 889) (by decide +kernel), List.mem_of_getElem? (i := 890) (by decide +kernel)⟩
theorem lw_p22 : lw_okq (⟨"StateObserver$Ranks", "putEffects", "(LStateObserver$Plant;)I"⟩, 6) := ⟨⟨by decide +kernel, by decide +kernel⟩, List.mem_of_getElem? (i := 254) (by decide +kernel), List.mem_of_getElem? (i := 893) (by decide +kernel), List.mem_of_getElem? (i := 894) (by decide +kernel)⟩
theorem lw_p23 : lw_okq (⟨"StateObserver", "succeeds", "(I)Z"⟩, 9) := ⟨⟨by decide +kernel, by decide +kernel⟩, List.mem_of_getElem? (i := 19) (by decide +kernel), List.mem_of_getElem? (i := 948) (by decide +kernel), List.mem_of_getElem? (i := 949) (by decide +kernel)⟩
theorem lw_p24 : lw_okq (⟨"StateObserver", "advancesCopy", "(III)Z"⟩, 9) := ⟨⟨by decide +kernel, by decide +kernel⟩, List.mem_of_getElem? (i := 19) (by decide +kernel), List.mem_of_getElem? (i := 952) (by decide +kernel), List.mem_of_getElem? (i := 953) (by decide +kernel)⟩
def lw_privs_2 : List (MethodName × Nat) := [(⟨"StateObserver$Motion", "advanceTruth", "(LStateObserver$Plant;LStateObserver$Moment;II)V"⟩, 2), (⟨"StateObserver$Motion", "advanceIntervals", "(LStateObserver$Plant;LStateObserver$Moment;I)V"⟩, 2), (⟨"StateObserver$Motion", "makePass", "(LStateObserver$Plant;LStateObserver$Moment;)I"⟩, 2), (⟨"StateObserver$Motion", "cutDown", "(LStateObserver$Plant;LStateObserver$Moment;II)I"⟩, 2), (⟨"StateObserver", "cannotHave", "(II)Z"⟩, 9), (⟨"StateObserver$Ranks", "includeEarlier", "(LStateObserver$Plant;)V"⟩, 6), (⟨"StateObserver$Ranks", "putEffects", "(LStateObserver$Plant;)I"⟩, 6), (⟨"StateObserver", "succeeds", "(I)Z"⟩, 9), (⟨"StateObserver", "advancesCopy", "(III)Z"⟩, 9)]
theorem lw_r2 : ∀ q ∈ lw_privs_2, lw_okq q := List.forall_mem_cons.mpr ⟨lw_p16, List.forall_mem_cons.mpr ⟨lw_p17, List.forall_mem_cons.mpr ⟨lw_p18, List.forall_mem_cons.mpr ⟨lw_p19, List.forall_mem_cons.mpr ⟨lw_p20, List.forall_mem_cons.mpr ⟨lw_p21, List.forall_mem_cons.mpr ⟨lw_p22, List.forall_mem_cons.mpr ⟨lw_p23, List.forall_mem_cons.mpr ⟨lw_p24, fun _ h => absurd h List.not_mem_nil⟩⟩⟩⟩⟩⟩⟩⟩⟩
def lw_privs : List (MethodName × Nat) := lw_privs_1 ++ (lw_privs_2)
def lw_tbl : List Cond := k2_sels lw_privs ++ tables_1
theorem lw_privs_ok : ∀ q ∈ lw_privs, lw_okq q := by
  show ∀ q ∈ lw_privs_1 ++ (lw_privs_2), lw_okq q
  exact List.forall_mem_append.mpr ⟨lw_r1, lw_r2⟩

def RX0 : String := "StateObserver$History"
def TX0 : u_T := fun k => match k with
  | 0 => ("StateObserver$History", "moments", "[LStateObserver$Moment;", true)
  | 1 => ("StateObserver$History", "next", "I", false)
  | _ => ("StateObserver$History", "count", "I", false)
def tyX0 : Nat → FieldType := fun k => match k with
  | 0 => .array (.object "StateObserver$Moment")
  | 1 => .int
  | _ => .int
theorem nmX0 : ∀ a, a < 3 → ∀ b, b < 3 → a ≠ b → (TX0 a).2.1 ≠ (TX0 b).2.1 := by decide +kernel
theorem tyX0_ok : ∀ k, k < 3 → parseFieldDescriptor (TX0 k).2.2.1 = some (tyX0 k) := by decide +kernel
abbrev cX0_init : ByteArray := prog_2_method_1_code
def yX0_init : MethodName := ⟨RX0, "<init>", "()V"⟩
abbrev cX0_remember : ByteArray := prog_2_method_2_code
def yX0_remember : MethodName := ⟨RX0, "remember", "(LStateObserver$Moment;)V"⟩
abbrev cX0_takeBack : ByteArray := prog_2_method_3_code
def yX0_takeBack : MethodName := ⟨RX0, "takeBack", "(LStateObserver$Moment;)V"⟩
abbrev cX0_forget : ByteArray := prog_2_method_4_code
def yX0_forget : MethodName := ⟨RX0, "forget", "()V"⟩
def RX1 : String := "StateObserver$Moment"
def TX1 : u_T := fun k => match k with
  | 0 => ("StateObserver$Moment", "truth", "[I", true)
  | 1 => ("StateObserver$Moment", "lower", "[I", true)
  | 2 => ("StateObserver$Moment", "upper", "[I", true)
  | 3 => ("StateObserver$Moment", "estimate", "[I", true)
  | 4 => ("StateObserver$Moment", "gain", "[[I", true)
  | 5 => ("StateObserver$Moment", "reading", "[I", true)
  | 6 => ("StateObserver$Moment", "age", "[I", true)
  | 7 => ("StateObserver$Moment", "hold", "I", false)
  | 8 => ("StateObserver$Moment", "bound", "I", false)
  | 9 => ("StateObserver$Moment", "time", "I", false)
  | 10 => ("StateObserver$Moment", "lastInput", "I", false)
  | 11 => ("StateObserver$Moment", "lastBound", "I", false)
  | 12 => ("StateObserver$Moment", "lastLow", "[I", true)
  | _ => ("StateObserver$Moment", "lastHigh", "[I", true)
def tyX1 : Nat → FieldType := fun k => match k with
  | 0 => .array .int
  | 1 => .array .int
  | 2 => .array .int
  | 3 => .array .int
  | 4 => .array (.array .int)
  | 5 => .array .int
  | 6 => .array .int
  | 7 => .int
  | 8 => .int
  | 9 => .int
  | 10 => .int
  | 11 => .int
  | 12 => .array .int
  | _ => .array .int
theorem nmX1 : ∀ a, a < 14 → ∀ b, b < 14 → a ≠ b → (TX1 a).2.1 ≠ (TX1 b).2.1 := by decide +kernel
theorem tyX1_ok : ∀ k, k < 14 → parseFieldDescriptor (TX1 k).2.2.1 = some (tyX1 k) := by decide +kernel
abbrev cX1_init : ByteArray := prog_3_method_1_code
def yX1_init : MethodName := ⟨RX1, "<init>", "()V"⟩
abbrev cX1_copyFrom : ByteArray := prog_3_method_2_code
def yX1_copyFrom : MethodName := ⟨RX1, "copyFrom", "(LStateObserver$Moment;)V"⟩
abbrev cX1_clearGains : ByteArray := prog_3_method_3_code
def yX1_clearGains : MethodName := ⟨RX1, "clearGains", "()V"⟩
def RX2 : String := "StateObserver$Motion"
def TX2 : u_T := fun k => match k with
  | 0 => ("StateObserver$Motion", "nextValue", "[I", true)
  | _ => ("StateObserver$Motion", "deviation", "[J", true)
def tyX2 : Nat → FieldType := fun k => match k with
  | 0 => .array .int
  | _ => .array .long
theorem nmX2 : ∀ a, a < 2 → ∀ b, b < 2 → a ≠ b → (TX2 a).2.1 ≠ (TX2 b).2.1 := by decide +kernel
theorem tyX2_ok : ∀ k, k < 2 → parseFieldDescriptor (TX2 k).2.2.1 = some (tyX2 k) := by decide +kernel
abbrev cX2_init : ByteArray := prog_4_method_1_code
def yX2_init : MethodName := ⟨RX2, "<init>", "()V"⟩
abbrev cX2_advance : ByteArray := prog_4_method_2_code
def yX2_advance : MethodName := ⟨RX2, "advance", "(LStateObserver$Plant;LStateObserver$Moment;II)V"⟩
abbrev cX2_advanceTruth : ByteArray := prog_4_method_3_code
def yX2_advanceTruth : MethodName := ⟨RX2, "advanceTruth", "(LStateObserver$Plant;LStateObserver$Moment;II)V"⟩
abbrev cX2_advanceIntervals : ByteArray := prog_4_method_4_code
def yX2_advanceIntervals : MethodName := ⟨RX2, "advanceIntervals", "(LStateObserver$Plant;LStateObserver$Moment;I)V"⟩
abbrev cX2_advanceEstimates : ByteArray := prog_4_method_5_code
def yX2_advanceEstimates : MethodName := ⟨RX2, "advanceEstimates", "(LStateObserver$Plant;LStateObserver$Moment;I)V"⟩
abbrev cX2_deviationOf : ByteArray := prog_4_method_6_code
def yX2_deviationOf : MethodName := ⟨RX2, "deviationOf", "(LStateObserver$Plant;LStateObserver$Moment;I)J"⟩
abbrev cX2_observe : ByteArray := prog_4_method_7_code
def yX2_observe : MethodName := ⟨RX2, "observe", "(LStateObserver$Plant;LStateObserver$Moment;I)V"⟩
abbrev cX2_tighten : ByteArray := prog_4_method_8_code
def yX2_tighten : MethodName := ⟨RX2, "tighten", "(LStateObserver$Plant;LStateObserver$Moment;)Z"⟩
abbrev cX2_makePass : ByteArray := prog_4_method_9_code
def yX2_makePass : MethodName := ⟨RX2, "makePass", "(LStateObserver$Plant;LStateObserver$Moment;)I"⟩
abbrev cX2_cutDown : ByteArray := prog_4_method_10_code
def yX2_cutDown : MethodName := ⟨RX2, "cutDown", "(LStateObserver$Plant;LStateObserver$Moment;II)I"⟩
def RX3 : String := "StateObserver$Plant"
def TX3 : u_T := fun k => match k with
  | 0 => ("StateObserver$Plant", "n", "I", false)
  | 1 => ("StateObserver$Plant", "p", "I", false)
  | 2 => ("StateObserver$Plant", "a", "[[I", true)
  | 3 => ("StateObserver$Plant", "b", "[I", true)
  | 4 => ("StateObserver$Plant", "e", "[I", true)
  | 5 => ("StateObserver$Plant", "c", "[[I", true)
  | _ => ("StateObserver$Plant", "quantum", "[I", true)
def tyX3 : Nat → FieldType := fun k => match k with
  | 0 => .int
  | 1 => .int
  | 2 => .array (.array .int)
  | 3 => .array .int
  | 4 => .array .int
  | 5 => .array (.array .int)
  | _ => .array .int
theorem nmX3 : ∀ a, a < 7 → ∀ b, b < 7 → a ≠ b → (TX3 a).2.1 ≠ (TX3 b).2.1 := by decide +kernel
theorem tyX3_ok : ∀ k, k < 7 → parseFieldDescriptor (TX3 k).2.2.1 = some (tyX3 k) := by decide +kernel
abbrev cX3_init : ByteArray := prog_5_method_1_code
def yX3_init : MethodName := ⟨RX3, "<init>", "()V"⟩
abbrev cX3_copyFrom : ByteArray := prog_5_method_2_code
def yX3_copyFrom : MethodName := ⟨RX3, "copyFrom", "(LStateObserver$Plant;)V"⟩
abbrev cX3_sum : ByteArray := prog_5_method_3_code
def yX3_sum : MethodName := ⟨RX3, "sum", "([I[I)J"⟩
abbrev cX3_extreme : ByteArray := prog_5_method_4_code
def yX3_extreme : MethodName := ⟨RX3, "extreme", "([ILStateObserver$Moment;IZ)J"⟩
abbrev cX3_quantized : ByteArray := prog_5_method_5_code
def yX3_quantized : MethodName := ⟨RX3, "quantized", "(IJ)I"⟩
abbrev cX3_widthOf : ByteArray := prog_5_method_6_code
def yX3_widthOf : MethodName := ⟨RX3, "widthOf", "(LStateObserver$Moment;)I"⟩
abbrev cX3_meetFreshOutputs : ByteArray := prog_5_method_7_code
def yX3_meetFreshOutputs : MethodName := ⟨RX3, "meetFreshOutputs", "([ILStateObserver$Moment;)Z"⟩
abbrev cX3_explains : ByteArray := prog_5_method_8_code
def yX3_explains : MethodName := ⟨RX3, "explains", "(ILStateObserver$Moment;)Z"⟩
abbrev cX3_firstActedOn : ByteArray := prog_5_method_9_code
def yX3_firstActedOn : MethodName := ⟨RX3, "firstActedOn", "()I"⟩
abbrev cX3_combinations : ByteArray := prog_5_method_10_code
def yX3_combinations : MethodName := ⟨RX3, "combinations", "()I"⟩
abbrev cX3_putCombination : ByteArray := prog_5_method_11_code
def yX3_putCombination : MethodName := ⟨RX3, "putCombination", "(I[I)V"⟩
def RX4 : String := "StateObserver$Ranks"
def TX4 : u_T := fun k => match k with
  | 0 => ("StateObserver$Ranks", "space", "LStateObserver$Space;", true)
  | 1 => ("StateObserver$Ranks", "nextSpace", "LStateObserver$Space;", true)
  | 2 => ("StateObserver$Ranks", "block", "[[J", true)
  | 3 => ("StateObserver$Ranks", "vector", "[J", true)
  | 4 => ("StateObserver$Ranks", "product", "[J", true)
  | _ => ("StateObserver$Ranks", "effect", "[J", true)
def tyX4 : Nat → FieldType := fun k => match k with
  | 0 => .object "StateObserver$Space"
  | 1 => .object "StateObserver$Space"
  | 2 => .array (.array .long)
  | 3 => .array .long
  | 4 => .array .long
  | _ => .array .long
theorem nmX4 : ∀ a, a < 6 → ∀ b, b < 6 → a ≠ b → (TX4 a).2.1 ≠ (TX4 b).2.1 := by decide +kernel
theorem tyX4_ok : ∀ k, k < 6 → parseFieldDescriptor (TX4 k).2.2.1 = some (tyX4 k) := by decide +kernel
abbrev cX4_init : ByteArray := prog_6_method_1_code
def yX4_init : MethodName := ⟨RX4, "<init>", "()V"⟩
abbrev cX4_ofPowers : ByteArray := prog_6_method_2_code
def yX4_ofPowers : MethodName := ⟨RX4, "ofPowers", "(LStateObserver$Plant;I)I"⟩
abbrev cX4_ofVisible : ByteArray := prog_6_method_3_code
def yX4_ofVisible : MethodName := ⟨RX4, "ofVisible", "(LStateObserver$Plant;I)I"⟩
abbrev cX4_includeEarlier : ByteArray := prog_6_method_4_code
def yX4_includeEarlier : MethodName := ⟨RX4, "includeEarlier", "(LStateObserver$Plant;)V"⟩
abbrev cX4_putEffects : ByteArray := prog_6_method_5_code
def yX4_putEffects : MethodName := ⟨RX4, "putEffects", "(LStateObserver$Plant;)I"⟩
abbrev cX4_putOutput : ByteArray := prog_6_method_6_code
def yX4_putOutput : MethodName := ⟨RX4, "putOutput", "(LStateObserver$Plant;I[J)V"⟩
abbrev cX4_multiply : ByteArray := prog_6_method_7_code
def yX4_multiply : MethodName := ⟨RX4, "multiply", "(LStateObserver$Plant;[J)V"⟩
def RX5 : String := "StateObserver$Slots"
def TX5 : u_T := fun k => match k with
  | 0 => ("StateObserver$Slots", "moments", "[LStateObserver$Moment;", true)
  | _ => ("StateObserver$Slots", "filled", "[Z", true)
def tyX5 : Nat → FieldType := fun k => match k with
  | 0 => .array (.object "StateObserver$Moment")
  | _ => .array .boolean
theorem nmX5 : ∀ a, a < 2 → ∀ b, b < 2 → a ≠ b → (TX5 a).2.1 ≠ (TX5 b).2.1 := by decide +kernel
theorem tyX5_ok : ∀ k, k < 2 → parseFieldDescriptor (TX5 k).2.2.1 = some (tyX5 k) := by decide +kernel
abbrev cX5_init : ByteArray := prog_7_method_1_code
def yX5_init : MethodName := ⟨RX5, "<init>", "()V"⟩
abbrev cX5_forget : ByteArray := prog_7_method_2_code
def yX5_forget : MethodName := ⟨RX5, "forget", "()V"⟩
def RX6 : String := "StateObserver$Space"
def TX6 : u_T := fun k => match k with
  | 0 => ("StateObserver$Space", "rows", "[[J", true)
  | _ => ("StateObserver$Space", "rank", "I", false)
def tyX6 : Nat → FieldType := fun k => match k with
  | 0 => .array (.array .long)
  | _ => .int
theorem nmX6 : ∀ a, a < 2 → ∀ b, b < 2 → a ≠ b → (TX6 a).2.1 ≠ (TX6 b).2.1 := by decide +kernel
theorem tyX6_ok : ∀ k, k < 2 → parseFieldDescriptor (TX6 k).2.2.1 = some (tyX6 k) := by decide +kernel
abbrev cX6_init : ByteArray := prog_8_method_1_code
def yX6_init : MethodName := ⟨RX6, "<init>", "()V"⟩
abbrev cX6_clear : ByteArray := prog_8_method_2_code
def yX6_clear : MethodName := ⟨RX6, "clear", "()V"⟩
abbrev cX6_copyFrom : ByteArray := prog_8_method_3_code
def yX6_copyFrom : MethodName := ⟨RX6, "copyFrom", "(LStateObserver$Space;)V"⟩
abbrev cX6_include : ByteArray := prog_8_method_4_code
def yX6_include : MethodName := ⟨RX6, "include", "([JI)V"⟩
def RX7 : String := "StateObserver$SystemText"
def TX7 : u_T := fun k => match k with
  | 0 => ("StateObserver$SystemText", "characters", "[C", true)
  | 1 => ("StateObserver$SystemText", "length", "I", false)
  | 2 => ("StateObserver$SystemText", "plant", "LStateObserver$Plant;", true)
  | 3 => ("StateObserver$SystemText", "start", "LStateObserver$Moment;", true)
  | 4 => ("StateObserver$SystemText", "position", "I", false)
  | _ => ("StateObserver$SystemText", "wrong", "Z", false)
def tyX7 : Nat → FieldType := fun k => match k with
  | 0 => .array .char
  | 1 => .int
  | 2 => .object "StateObserver$Plant"
  | 3 => .object "StateObserver$Moment"
  | 4 => .int
  | _ => .boolean
theorem nmX7 : ∀ a, a < 6 → ∀ b, b < 6 → a ≠ b → (TX7 a).2.1 ≠ (TX7 b).2.1 := by decide +kernel
theorem tyX7_ok : ∀ k, k < 6 → parseFieldDescriptor (TX7 k).2.2.1 = some (tyX7 k) := by decide +kernel
abbrev cX7_init : ByteArray := prog_9_method_1_code
def yX7_init : MethodName := ⟨RX7, "<init>", "()V"⟩
abbrev cX7_put : ByteArray := prog_9_method_2_code
def yX7_put : MethodName := ⟨RX7, "put", "(C)V"⟩
abbrev cX7_firstError : ByteArray := prog_9_method_3_code
def yX7_firstError : MethodName := ⟨RX7, "firstError", "()I"⟩
abbrev cX7_takeHead : ByteArray := prog_9_method_4_code
def yX7_takeHead : MethodName := ⟨RX7, "takeHead", "()V"⟩
abbrev cX7_takeState : ByteArray := prog_9_method_5_code
def yX7_takeState : MethodName := ⟨RX7, "takeState", "(I)V"⟩
abbrev cX7_takeOutput : ByteArray := prog_9_method_6_code
def yX7_takeOutput : MethodName := ⟨RX7, "takeOutput", "(I)V"⟩
abbrev cX7_takeGain : ByteArray := prog_9_method_7_code
def yX7_takeGain : MethodName := ⟨RX7, "takeGain", "()V"⟩
abbrev cX7_takeNumber : ByteArray := prog_9_method_8_code
def yX7_takeNumber : MethodName := ⟨RX7, "takeNumber", "()I"⟩
abbrev cX7_takeTwoDigits : ByteArray := prog_9_method_9_code
def yX7_takeTwoDigits : MethodName := ⟨RX7, "takeTwoDigits", "(I)I"⟩
abbrev cX7_takeDigit : ByteArray := prog_9_method_10_code
def yX7_takeDigit : MethodName := ⟨RX7, "takeDigit", "(II)I"⟩
abbrev cX7_takeCharacter : ByteArray := prog_9_method_11_code
def yX7_takeCharacter : MethodName := ⟨RX7, "takeCharacter", "(CC)Z"⟩
def RX8 : String := "StateObserver"
def TX8 : u_T := fun k => match k with
  | 0 => ("StateObserver", "plant", "LStateObserver$Plant;", true)
  | 1 => ("StateObserver", "now", "LStateObserver$Moment;", true)
  | 2 => ("StateObserver", "copy", "LStateObserver$Moment;", true)
  | 3 => ("StateObserver", "history", "LStateObserver$History;", true)
  | 4 => ("StateObserver", "slots", "LStateObserver$Slots;", true)
  | 5 => ("StateObserver", "text", "LStateObserver$SystemText;", true)
  | 6 => ("StateObserver", "motion", "LStateObserver$Motion;", true)
  | 7 => ("StateObserver", "ranks", "LStateObserver$Ranks;", true)
  | _ => ("StateObserver", "row", "[I", true)
def tyX8 : Nat → FieldType := fun k => match k with
  | 0 => .object "StateObserver$Plant"
  | 1 => .object "StateObserver$Moment"
  | 2 => .object "StateObserver$Moment"
  | 3 => .object "StateObserver$History"
  | 4 => .object "StateObserver$Slots"
  | 5 => .object "StateObserver$SystemText"
  | 6 => .object "StateObserver$Motion"
  | 7 => .object "StateObserver$Ranks"
  | _ => .array .int
theorem nmX8 : ∀ a, a < 9 → ∀ b, b < 9 → a ≠ b → (TX8 a).2.1 ≠ (TX8 b).2.1 := by decide +kernel
theorem tyX8_ok : ∀ k, k < 9 → parseFieldDescriptor (TX8 k).2.2.1 = some (tyX8 k) := by decide +kernel
abbrev cX8_init : ByteArray := prog_1_method_1_code
def yX8_init : MethodName := ⟨RX8, "<init>", "()V"⟩
abbrev cX8_append : ByteArray := prog_1_method_2_code
def yX8_append : MethodName := ⟨RX8, "append", "(I)I"⟩
abbrev cX8_clearText : ByteArray := prog_1_method_3_code
def yX8_clearText : MethodName := ⟨RX8, "clearText", "()I"⟩
abbrev cX8_errorPosition : ByteArray := prog_1_method_4_code
def yX8_errorPosition : MethodName := ⟨RX8, "errorPosition", "()I"⟩
abbrev cX8_load : ByteArray := prog_1_method_5_code
def yX8_load : MethodName := ⟨RX8, "load", "()I"⟩
abbrev cX8_about : ByteArray := prog_1_method_6_code
def yX8_about : MethodName := ⟨RX8, "about", "(I)I"⟩
abbrev cX8_coefficient : ByteArray := prog_1_method_7_code
def yX8_coefficient : MethodName := ⟨RX8, "coefficient", "(III)I"⟩
abbrev cX8_state : ByteArray := prog_1_method_8_code
def yX8_state : MethodName := ⟨RX8, "state", "(II)I"⟩
abbrev cX8_output : ByteArray := prog_1_method_9_code
def yX8_output : MethodName := ⟨RX8, "output", "(II)I"⟩
abbrev cX8_width : ByteArray := prog_1_method_10_code
def yX8_width : MethodName := ⟨RX8, "width", "()I"⟩
abbrev cX8_place : ByteArray := prog_1_method_11_code
def yX8_place : MethodName := ⟨RX8, "place", "(II)I"⟩
abbrev cX8_step : ByteArray := prog_1_method_12_code
def yX8_step : MethodName := ⟨RX8, "step", "(II)I"⟩
abbrev cX8_read : ByteArray := prog_1_method_13_code
def yX8_read : MethodName := ⟨RX8, "read", "(I)I"⟩
abbrev cX8_shave : ByteArray := prog_1_method_14_code
def yX8_shave : MethodName := ⟨RX8, "shave", "(II)I"⟩
abbrev cX8_setGain : ByteArray := prog_1_method_15_code
def yX8_setGain : MethodName := ⟨RX8, "setGain", "(III)I"⟩
abbrev cX8_setHold : ByteArray := prog_1_method_16_code
def yX8_setHold : MethodName := ⟨RX8, "setHold", "(I)I"⟩
abbrev cX8_setBound : ByteArray := prog_1_method_17_code
def yX8_setBound : MethodName := ⟨RX8, "setBound", "(I)I"⟩
abbrev cX8_undo : ByteArray := prog_1_method_18_code
def yX8_undo : MethodName := ⟨RX8, "undo", "()I"⟩
abbrev cX8_canBe : ByteArray := prog_1_method_19_code
def yX8_canBe : MethodName := ⟨RX8, "canBe", "(IIII)Z"⟩
abbrev cX8_widthIf : ByteArray := prog_1_method_20_code
def yX8_widthIf : MethodName := ⟨RX8, "widthIf", "(II)I"⟩
abbrev cX8_ahead : ByteArray := prog_1_method_21_code
def yX8_ahead : MethodName := ⟨RX8, "ahead", "(IIIZ)I"⟩
abbrev cX8_earliest : ByteArray := prog_1_method_22_code
def yX8_earliest : MethodName := ⟨RX8, "earliest", "(IIIZ)I"⟩
abbrev cX8_unknown : ByteArray := prog_1_method_23_code
def yX8_unknown : MethodName := ⟨RX8, "unknown", "(Z)I"⟩
abbrev cX8_rankAfter : ByteArray := prog_1_method_24_code
def yX8_rankAfter : MethodName := ⟨RX8, "rankAfter", "(I)I"⟩
abbrev cX8_observabilityIndex : ByteArray := prog_1_method_25_code
def yX8_observabilityIndex : MethodName := ⟨RX8, "observabilityIndex", "()I"⟩
abbrev cX8_hiddenDimension : ByteArray := prog_1_method_26_code
def yX8_hiddenDimension : MethodName := ⟨RX8, "hiddenDimension", "(I)I"⟩
abbrev cX8_touched : ByteArray := prog_1_method_27_code
def yX8_touched : MethodName := ⟨RX8, "touched", "()I"⟩
abbrev cX8_free : ByteArray := prog_1_method_28_code
def yX8_free : MethodName := ⟨RX8, "free", "(II)I"⟩
abbrev cX8_freeRange : ByteArray := prog_1_method_29_code
def yX8_freeRange : MethodName := ⟨RX8, "freeRange", "(IZ)I"⟩
abbrev cX8_runScript : ByteArray := prog_1_method_30_code
def yX8_runScript : MethodName := ⟨RX8, "runScript", "(IJ)I"⟩
abbrev cX8_simulate : ByteArray := prog_1_method_31_code
def yX8_simulate : MethodName := ⟨RX8, "simulate", "(JI)J"⟩
abbrev cX8_save : ByteArray := prog_1_method_32_code
def yX8_save : MethodName := ⟨RX8, "save", "(I)I"⟩
abbrev cX8_restore : ByteArray := prog_1_method_33_code
def yX8_restore : MethodName := ⟨RX8, "restore", "(I)I"⟩
abbrev cX8_isState : ByteArray := prog_1_method_34_code
def yX8_isState : MethodName := ⟨RX8, "isState", "(I)Z"⟩
abbrev cX8_isOutput : ByteArray := prog_1_method_35_code
def yX8_isOutput : MethodName := ⟨RX8, "isOutput", "(I)Z"⟩
abbrev cX8_isFactor : ByteArray := prog_1_method_36_code
def yX8_isFactor : MethodName := ⟨RX8, "isFactor", "(I)Z"⟩
abbrev cX8_columnsOf : ByteArray := prog_1_method_37_code
def yX8_columnsOf : MethodName := ⟨RX8, "columnsOf", "(I)I"⟩
abbrev cX8_cannotHave : ByteArray := prog_1_method_38_code
def yX8_cannotHave : MethodName := ⟨RX8, "cannotHave", "(II)Z"⟩
abbrev cX8_succeeds : ByteArray := prog_1_method_39_code
def yX8_succeeds : MethodName := ⟨RX8, "succeeds", "(I)Z"⟩
abbrev cX8_advancesCopy : ByteArray := prog_1_method_40_code
def yX8_advancesCopy : MethodName := ⟨RX8, "advancesCopy", "(III)Z"⟩
abbrev cX8_floorQuotient : ByteArray := prog_1_method_41_code
def yX8_floorQuotient : MethodName := ⟨RX8, "floorQuotient", "(JJ)J"⟩
abbrev cX8_quotient : ByteArray := prog_1_method_42_code
def yX8_quotient : MethodName := ⟨RX8, "quotient", "(II)I"⟩
abbrev cX8_remainder : ByteArray := prog_1_method_43_code
def yX8_remainder : MethodName := ⟨RX8, "remainder", "(II)I"⟩
abbrev cX8_limited : ByteArray := prog_1_method_44_code
def yX8_limited : MethodName := ⟨RX8, "limited", "(JI)I"⟩
abbrev cX8_commonDivisor : ByteArray := prog_1_method_45_code
def yX8_commonDivisor : MethodName := ⟨RX8, "commonDivisor", "(II)I"⟩
abbrev cX8_removeLead : ByteArray := prog_1_method_46_code
def yX8_removeLead : MethodName := ⟨RX8, "removeLead", "([JJ[JJI)V"⟩
abbrev cX8_copyRow : ByteArray := prog_1_method_47_code
def yX8_copyRow : MethodName := ⟨RX8, "copyRow", "([I[I)V"⟩
abbrev cX8_copyRow_ : ByteArray := prog_1_method_48_code
def yX8_copyRow_ : MethodName := ⟨RX8, "copyRow", "([J[J)V"⟩
abbrev cX8_copyRows : ByteArray := prog_1_method_49_code
def yX8_copyRows : MethodName := ⟨RX8, "copyRows", "([[I[[I)V"⟩
def RX9 : String := "StateObserverModel"
def TX9 : u_T := fun k => match k with
  | _ => ("", "", "", false)
def tyX9 : Nat → FieldType := fun k => match k with
  | _ => .int
theorem nmX9 : ∀ a, a < 0 → ∀ b, b < 0 → a ≠ b → (TX9 a).2.1 ≠ (TX9 b).2.1 := by decide +kernel
theorem tyX9_ok : ∀ k, k < 0 → parseFieldDescriptor (TX9 k).2.2.1 = some (tyX9 k) := by decide +kernel
def RJ9 : String := "java/lang/Math"
def TJ9 : u_T := fun k => match k with
  | _ => ("", "", "", false)
def tyJ9 : Nat → FieldType := fun k => match k with
  | _ => .int
theorem nmJ9 : ∀ a, a < 0 → ∀ b, b < 0 → a ≠ b → (TJ9 a).2.1 ≠ (TJ9 b).2.1 := by decide +kernel
theorem tyJ9_ok : ∀ k, k < 0 → parseFieldDescriptor (TJ9 k).2.2.1 = some (tyJ9 k) := by decide +kernel
abbrev cJ9_floorDiv_f86c9 : ByteArray := prog_16_method_49_code
def yJ9_floorDiv_f86c9 : MethodName := ⟨RJ9, "floorDiv", "(JJ)J"⟩
abbrev cJ9_floorMod_f86c9 : ByteArray := prog_16_method_52_code
def yJ9_floorMod_f86c9 : MethodName := ⟨RJ9, "floorMod", "(JJ)J"⟩
abbrev cJ9_abs_0f7a4 : ByteArray := prog_16_method_59_code
def yJ9_abs_0f7a4 : MethodName := ⟨RJ9, "abs", "(I)I"⟩
abbrev cJ9_max_7cf53 : ByteArray := prog_16_method_65_code
def yJ9_max_7cf53 : MethodName := ⟨RJ9, "max", "(II)I"⟩
abbrev cJ9_max_f86c9 : ByteArray := prog_16_method_66_code
def yJ9_max_f86c9 : MethodName := ⟨RJ9, "max", "(JJ)J"⟩
abbrev cJ9_min_7cf53 : ByteArray := prog_16_method_69_code
def yJ9_min_7cf53 : MethodName := ⟨RJ9, "min", "(II)I"⟩
abbrev cJ9_min_f86c9 : ByteArray := prog_16_method_70_code
def yJ9_min_f86c9 : MethodName := ⟨RJ9, "min", "(JJ)J"⟩
def RJ0 : String := "java/lang/String"
def TJ0 : u_T := fun k => match k with
  | _ => ("", "", "", false)
def tyJ0 : Nat → FieldType := fun k => match k with
  | _ => .int
theorem nmJ0 : ∀ a, a < 0 → ∀ b, b < 0 → a ≠ b → (TJ0 a).2.1 ≠ (TJ0 b).2.1 := by decide +kernel
theorem tyJ0_ok : ∀ k, k < 0 → parseFieldDescriptor (TJ0 k).2.2.1 = some (tyJ0 k) := by decide +kernel
def RJ10 : String := "java/lang/System"
def TJ10 : u_T := fun k => match k with
  | _ => ("", "", "", false)
def tyJ10 : Nat → FieldType := fun k => match k with
  | _ => .int
theorem nmJ10 : ∀ a, a < 0 → ∀ b, b < 0 → a ≠ b → (TJ10 a).2.1 ≠ (TJ10 b).2.1 := by decide +kernel
theorem tyJ10_ok : ∀ k, k < 0 → parseFieldDescriptor (TJ10 k).2.2.1 = some (tyJ10 k) := by decide +kernel
def RL : String := "StateObserverLaw"
abbrev cL_tryAppend : ByteArray := method_2_code
def yL_tryAppend : MethodName := ⟨RL, "tryAppend", "(LStateObserver;I)I"⟩
abbrev cL_tryLoad : ByteArray := method_3_code
def yL_tryLoad : MethodName := ⟨RL, "tryLoad", "(LStateObserver;)I"⟩
abbrev cL_tryAbout : ByteArray := method_4_code
def yL_tryAbout : MethodName := ⟨RL, "tryAbout", "(LStateObserver;I)I"⟩
abbrev cL_tryNumber : ByteArray := method_5_code
def yL_tryNumber : MethodName := ⟨RL, "tryNumber", "(LStateObserver;III)I"⟩
abbrev cL_tryState : ByteArray := method_6_code
def yL_tryState : MethodName := ⟨RL, "tryState", "(LStateObserver;II)I"⟩
abbrev cL_tryOutput : ByteArray := method_7_code
def yL_tryOutput : MethodName := ⟨RL, "tryOutput", "(LStateObserver;II)I"⟩
abbrev cL_tryPlace : ByteArray := method_8_code
def yL_tryPlace : MethodName := ⟨RL, "tryPlace", "(LStateObserver;II)I"⟩
abbrev cL_tryStep : ByteArray := method_9_code
def yL_tryStep : MethodName := ⟨RL, "tryStep", "(LStateObserver;II)I"⟩
abbrev cL_tryRead : ByteArray := method_10_code
def yL_tryRead : MethodName := ⟨RL, "tryRead", "(LStateObserver;I)I"⟩
abbrev cL_tryShave : ByteArray := method_11_code
def yL_tryShave : MethodName := ⟨RL, "tryShave", "(LStateObserver;II)I"⟩
abbrev cL_trySetGain : ByteArray := method_12_code
def yL_trySetGain : MethodName := ⟨RL, "trySetGain", "(LStateObserver;III)I"⟩
abbrev cL_trySetHold : ByteArray := method_13_code
def yL_trySetHold : MethodName := ⟨RL, "trySetHold", "(LStateObserver;I)I"⟩
abbrev cL_trySetBound : ByteArray := method_14_code
def yL_trySetBound : MethodName := ⟨RL, "trySetBound", "(LStateObserver;I)I"⟩
abbrev cL_tryUndo : ByteArray := method_15_code
def yL_tryUndo : MethodName := ⟨RL, "tryUndo", "(LStateObserver;)I"⟩
abbrev cL_tryCanBe : ByteArray := method_16_code
def yL_tryCanBe : MethodName := ⟨RL, "tryCanBe", "(LStateObserver;IIII)I"⟩
abbrev cL_tryWidthIf : ByteArray := method_17_code
def yL_tryWidthIf : MethodName := ⟨RL, "tryWidthIf", "(LStateObserver;II)I"⟩
abbrev cL_tryAhead : ByteArray := method_18_code
def yL_tryAhead : MethodName := ⟨RL, "tryAhead", "(LStateObserver;IIIZ)I"⟩
abbrev cL_tryEarliest : ByteArray := method_19_code
def yL_tryEarliest : MethodName := ⟨RL, "tryEarliest", "(LStateObserver;IIIZ)I"⟩
abbrev cL_tryUnknown : ByteArray := method_20_code
def yL_tryUnknown : MethodName := ⟨RL, "tryUnknown", "(LStateObserver;Z)I"⟩
abbrev cL_tryRank : ByteArray := method_21_code
def yL_tryRank : MethodName := ⟨RL, "tryRank", "(LStateObserver;I)I"⟩
abbrev cL_tryHidden : ByteArray := method_22_code
def yL_tryHidden : MethodName := ⟨RL, "tryHidden", "(LStateObserver;I)I"⟩
abbrev cL_tryFree : ByteArray := method_23_code
def yL_tryFree : MethodName := ⟨RL, "tryFree", "(LStateObserver;II)I"⟩
abbrev cL_tryFreeRange : ByteArray := method_24_code
def yL_tryFreeRange : MethodName := ⟨RL, "tryFreeRange", "(LStateObserver;IZ)I"⟩
abbrev cL_tryScript : ByteArray := method_25_code
def yL_tryScript : MethodName := ⟨RL, "tryScript", "(LStateObserver;IJ)I"⟩
abbrev cL_trySave : ByteArray := method_26_code
def yL_trySave : MethodName := ⟨RL, "trySave", "(LStateObserver;I)I"⟩
abbrev cL_tryRestore : ByteArray := method_27_code
def yL_tryRestore : MethodName := ⟨RL, "tryRestore", "(LStateObserver;I)I"⟩
abbrev cL_trySimulate : ByteArray := method_28_code
def yL_trySimulate : MethodName := ⟨RL, "trySimulate", "(LStateObserver;JI)J"⟩
abbrev cL_cell : ByteArray := method_29_code
def yL_cell : MethodName := ⟨RL, "cell", "([II)I"⟩
abbrev cL_down : ByteArray := method_30_code
def yL_down : MethodName := ⟨RL, "down", "(JJ)J"⟩
abbrev cL_put : ByteArray := method_31_code
def yL_put : MethodName := ⟨RL, "put", "(LStateObserver;LStateObserver;I)Z"⟩
abbrev cL_signed : ByteArray := method_32_code
def yL_signed : MethodName := ⟨RL, "signed", "(LStateObserver;LStateObserver;I)Z"⟩
abbrev cL_told : ByteArray := method_33_code
def yL_told : MethodName := ⟨RL, "told", "(LStateObserver;LStateObserver;[II)Z"⟩
abbrev cL_alike : ByteArray := method_34_code
def yL_alike : MethodName := ⟨RL, "alike", "(LStateObserver;LStateObserver;)Z"⟩
abbrev cL_refuses : ByteArray := method_35_code
def yL_refuses : MethodName := ⟨RL, "refuses", "(LStateObserver;)Z"⟩
abbrev cL_contained : ByteArray := method_36_code
def yL_contained : MethodName := ⟨RL, "contained", "(LStateObserver;)Z"⟩
abbrev cL_seen : ByteArray := method_37_code
def yL_seen : MethodName := ⟨RL, "seen", "(LStateObserver;)Z"⟩
abbrev cL_stepped : ByteArray := method_38_code
def yL_stepped : MethodName := ⟨RL, "stepped", "(LStateObserver;I)Z"⟩
abbrev cL_bounded : ByteArray := method_39_code
def yL_bounded : MethodName := ⟨RL, "bounded", "(LStateObserver;I)Z"⟩
abbrev cL_earliest : ByteArray := method_40_code
def yL_earliest : MethodName := ⟨RL, "earliest", "(LStateObserver;I)Z"⟩
abbrev cL_scripts : ByteArray := method_41_code
def yL_scripts : MethodName := ⟨RL, "scripts", "(LStateObserver;I)Z"⟩
abbrev cL_act : ByteArray := method_42_code
def yL_act : MethodName := ⟨RL, "act", "(LStateObserver;II)I"⟩
abbrev cL_law : ByteArray := code
def yL_law : MethodName := ⟨RL, "law", "([I)Z"⟩
abbrev vwCl : List vw_C := [(RX0, TX0, 3), (RX1, TX1, 14), (RX2, TX2, 2), (RX3, TX3, 7), (RX4, TX4, 6), (RX5, TX5, 2), (RX6, TX6, 2), (RX7, TX7, 6), (RX8, TX8, 9)]
